/-! the law's own frame, by the plain machine: what it reads of the script, the calls it makes -/
section LWA
/-- its code; the cut to six bits of numbers -/
noncomputable def ix_cLw (O : ix_O) (call : ix_Call) : ix_P := fun pc => cond (Nat.beq pc 32) (ix_ibin Nat.land 32 33) (ix_cL_law O call pc)
abbrev lw_ls (i : Nat) : ix_L := [some (.inr (.inr (.inl 1000001))), some (.inr (.inr (.inl 1))), some (.inr (.inr (.inl 80))), some (.inl i)]
theorem lw_take : ∀ (l acc rest : List ix_V), ix_take l.length acc (l ++ rest) = some (l.reverse ++ acc, rest)
  | [], acc, rest => rfl
  | v :: l, acc, rest => by
    show ix_take l.length (v :: acc) (l ++ rest) = _
    rw [lw_take l (v :: acc) rest, List.reverse_cons, List.append_assoc]
    rfl
def lw_hp (n : Nat) (t : ix_T) : Prop := ∃ σ : ty_Sg, ty_hp ty_h σ n t ∧ σ.2.1 1001 = 0
theorem lw_w00 {σ : ty_Sg} {n : Nat} {t : ix_T} (h : ty_hp ty_h σ n t) : ty_wk ty_h σ ((0, .leaf (2147483648, 6442450943)), ((0, .leaf (0, 0)), ((0, .leaf 0), ([], [])))) n t := ⟨⟨Nat.zero_le _, fun x hx => absurd hx (Nat.not_lt_zero _)⟩, ⟨Nat.zero_le _, fun x hx => absurd hx (Nat.not_lt_zero _)⟩, h, ⟨Nat.zero_le _, fun x hx => absurd hx (Nat.not_lt_zero _)⟩, fun q hq => absurd hq (List.not_mem_nil), fun f hf => absurd hf (List.not_mem_nil)⟩
theorem lw_sev0 : ty_chv ty_h ((0, .leaf (2147483648, 6442450943)), ((0, .leaf (0, 0)), ((0, .leaf 0), ([], [])))) (79, 9, 4294967296, 4294967312, 0) = true := by decide +kernel
theorem lw_sev {σ : ty_Sg} {n : Nat} {t : ix_T} (h : ty_hp ty_h σ n t) (h0 : σ.2.1 1001 = 0) : ty_sev σ.2.1 t (79, 9, 4294967296, 4294967312, 15) := by
  obtain ⟨m, m1, m2, m3, m4, _⟩ := ty_chv_ok (lw_w00 h) lw_sev0
  refine ⟨m, m1, m2, m3, m4, Or.inr ?_⟩
  show (14 = 2 → σ.2.1 1001 = 1) ∧ (14 = 6 → m = 2400 + σ.2.1 1002) ∧ (14 = 10 → σ.2.1 (2000 + m) = 1) ∧ (14 = 14 → σ.2.1 1001 = 0)
  exact ⟨fun q => absurd q (by decide), fun q => absurd q (by decide), fun q => absurd q (by decide), fun _ => h0⟩
/-- any numbers as arguments -/
theorem lw_asms {γ Γ : Nat → Nat} {n : Nat} {t : ix_T} : ∀ (ms : List Nat), (∀ m ∈ ms, m < 4294967296) → ty_asms γ Γ n t (List.replicate ms.length (0, 2147483648, 6442450943, 0)) (ms.map (fun m => (Sum.inl m : ix_V)))
  | [], _ => trivial
  | m :: ms, h => ⟨⟨m, rfl, h m List.mem_cons_self, ty_kp_lo m, by have := ty_kp_hi m; show ty_kp m ≤ 6442450943; omega, Or.inl rfl⟩, lw_asms ms (fun q hq => h q (List.mem_cons_of_mem _ hq))⟩
/-- a contract of a call that answers a number -/
theorem lw_evc {M : ix_M} {K : ty_KT} {as : List ix_V} {lo hi y d n : Nat} {t : ix_T} (hKS : ty_KS ty_h M ty_cp d y K) (hp : lw_hp n t) (hn : n + ty_cp y ≤ 16384) (ha : ∀ γ Γ : Nat → Nat, ty_asms γ Γ n t K.1 as) (hV : ∀ e ∈ K.2.1, e = (79, 9, 4294967296, 4294967312, 15)) (hP : K.2.2 = [([(0, lo, hi, 0)], [], [], [])]) : ∃ (r : Nat) (C' : ty_C), ty_ev M d y as n t C' ∧ C'.2.1 = [.inl r] ∧ r < 4294967296 ∧ lo ≤ ty_kp r ∧ ty_kp r ≤ hi ∧ lw_hp C'.2.2.1 C'.2.2.2.1 ∧ C'.2.2.1 ≤ n + ty_cp y := by
  obtain ⟨σ, h1, h2⟩ := hp
  obtain ⟨p, pm, σ', C', a1, a2, a3, a4, a5, a6, a7, a8, a9⟩ := hKS σ as n t h1 (ha _ _) (fun e he => by rw [hV e he]; exact lw_sev h1 h2) hn
  rw [hP] at pm
  have hpp := List.mem_singleton.mp pm
  subst hpp
  obtain ⟨ls', stk', n', t', w'⟩ := C'
  have h0 : σ'.2.1 1001 = 0 := by rw [a1 1001 (Or.inr (by decide))]; exact h2
  match stk', a4 with
  | [v], ⟨⟨m, hv, m1, m2, m3, _⟩, _⟩ =>
    subst hv
    exact ⟨m, _, a9, rfl, m1, m2, m3, ⟨σ', a3, h0⟩, a8⟩
variable {O : ix_O} {M : ix_M} {d : Nat} {P : ix_Call → ix_P} {L i n ce sl : Nat} {f : ix_A} {v : Nat → Nat} {t : ix_T}
/-- the code that reads these places of the script -/
def lw_ac (O : ix_O) (P : ix_Call → ix_P) : Nat → List Nat → Prop
  | _, [] => True
  | p, c :: cs => (∀ call, P call p = ix_load ix_isRef 0 (p + 1)) ∧ (∀ call, P call (p + 1) = ix_load ix_isInt 3 (p + 2)) ∧ (∀ call, P call (p + 2) = ix_push (p + 3) (ix_vI c)) ∧ (∀ call, P call (p + 3) = ix_iadd (p + 4)) ∧ (∀ call, P call (p + 4) = ix_iald O (p + 4) (p + 5)) ∧ lw_ac O P (p + 5) cs
theorem lw_oald {p nx m : Nat} {ls : ix_L} {st : List ix_V} {w : Nat × Nat} (hO : O 1000000 = some (L, f)) (hv : ∀ j, j < L → ix_g f j = .inl (v j)) (hm : m < L) (hn : n ≤ 16384) : ix_iald O p nx ([], ls, .inl m :: .inr (.inr (.inl 1000001)) :: st, n, t, w) = some [(nx, ([], ls, .inl (v m) :: st, n, t, w))] := by
  show (match cond (Nat.blt 1000000 n) (match ix_g t 1000000 with | (kd, q) => cond (Nat.beq kd 0) (some q) none) (cond (Nat.blt 1000000 1000000) none (O 1000000)) with
    | some (len, f) => (match ix_nrm [] (.inl m) with
      | .inl m => cond (Nat.blt m len) (some [(nx, ([], ls, ix_g f m :: st, n, t, w))]) none
      | .inr (.inr (.inr (x, _))) => ix_split p ([], ls, .inl m :: .inr (.inr (.inl 1000001)) :: st, n, t, w) x
      | _ => none)
    | none => none) = _
  rw [ix_blt_f.mpr (show ¬ 1000000 < n by omega), cond_false, ix_blt_f.mpr (Nat.lt_irrefl 1000000), cond_false, hO]
  show cond (Nat.blt m L) (some [(nx, ([], ls, ix_g f m :: st, n, t, w))]) none = _
  rw [ix_blt.mpr hm, hv m hm]
  rfl
theorem lw_args (hO : O 1000000 = some (L, f)) (hv : ∀ j, j < L → ix_g f j = .inl (v j)) (hL : L ≤ 3072) (hn : n ≤ 16384) : ∀ (cs : List Nat) (p : Nat) (st : List ix_V), lw_ac O P p cs → p + 5 * cs.length < 99999 → (∀ c ∈ cs, i + c < L) → ty_rt M d P p (lw_ls i, st, n, t, ce, sl) (p + 5 * cs.length) (lw_ls i, ((cs.map (fun c => v (i + c))).map (fun m => (Sum.inl m : ix_V))).reverse ++ st, n, t, ce, sl)
  | [], p, st, _, _, _ => pl_rf
  | c :: cs, p, st, ⟨h1, h2, h3, h4, h5, h6⟩, hp, hc => by
    have hl : (c :: cs).length = cs.length + 1 := rfl
    have hic := hc c List.mem_cons_self
    have e1 : ty_rt M d P p (lw_ls i, st, n, t, ce, sl) (p + 1) (lw_ls i, .inr (.inr (.inl 1000001)) :: st, n, t, ce, sl) := ty_rt_step (by omega) ⟨0, fun g _ => by rw [h1]; rfl⟩
    have e2 : ty_rt M d P (p + 1) (lw_ls i, .inr (.inr (.inl 1000001)) :: st, n, t, ce, sl) (p + 2) (lw_ls i, .inl i :: .inr (.inr (.inl 1000001)) :: st, n, t, ce, sl) := ty_rt_step (by omega) ⟨0, fun g _ => by rw [h2]; rfl⟩
    have e3 : ty_rt M d P (p + 2) (lw_ls i, .inl i :: .inr (.inr (.inl 1000001)) :: st, n, t, ce, sl) (p + 3) (lw_ls i, .inl c :: .inl i :: .inr (.inr (.inl 1000001)) :: st, n, t, ce, sl) := ty_rt_step (by omega) ⟨0, fun g _ => by rw [h3]; rfl⟩
    have e4 : ty_rt M d P (p + 3) (lw_ls i, .inl c :: .inl i :: .inr (.inr (.inl 1000001)) :: st, n, t, ce, sl) (p + 4) (lw_ls i, .inl (i + c) :: .inr (.inr (.inl 1000001)) :: st, n, t, ce, sl) := ty_rt_step (by omega) ⟨0, fun g _ => by rw [h4]; exact pl_iadd (pl_add (by omega))⟩
    have e5 : ty_rt M d P (p + 4) (lw_ls i, .inl (i + c) :: .inr (.inr (.inl 1000001)) :: st, n, t, ce, sl) (p + 5) (lw_ls i, .inl (v (i + c)) :: st, n, t, ce, sl) := ty_rt_step (by omega) ⟨0, fun g _ => by rw [h5]; exact lw_oald hO hv hic hn⟩
    have e6 := lw_args hO hv hL hn cs (p + 5) (.inl (v (i + c)) :: st) h6 (by omega) (fun q hq => hc q (List.mem_cons_of_mem _ hq))
    have e7 := e1.tr (e2.tr (e3.tr (e4.tr (e5.tr e6))))
    have ep : p + 5 + 5 * cs.length = p + 5 * (c :: cs).length := by rw [hl]; omega
    rw [ep] at e7
    have es : ((cs.map (fun c => v (i + c))).map (fun m => (Sum.inl m : ix_V))).reverse ++ (.inl (v (i + c)) :: st) = (((c :: cs).map (fun c => v (i + c))).map (fun m => (Sum.inl m : ix_V))).reverse ++ st := by simp
    rw [es] at e7
    exact e7
theorem lw_rcv {o kd : Nat} {as : List ix_V} (hp : lw_hp n t) (ho : o < 114) (hk : (ty_h.2 o).1 = kd) : ix_rcv kd (.inr (.inr (.inl (o + 1))) :: as) n t = true := by
  obtain ⟨σ, h1, _⟩ := hp
  have hn : o < n := Nat.lt_of_lt_of_le ho (by have := h1.1; have e : ty_h.1 = 114 := rfl; omega)
  have hc := h1.2.2.2.1 o hn
  have hid := (h1.2.2.2.2.1 o hn).1 (show o < 114 from ho)
  rw [hid] at hc
  show (Nat.blt o n && Nat.beq (ix_g t o).1 kd) = true
  rw [ix_blt.mpr hn, ix_beq.mpr (hc.1.trans hk)]
  rfl
theorem lw_vlt (hv : ∀ j, v j < 4294967296) {cs : List Nat} : ∀ m ∈ cs.map (fun c => v (i + c)), m < 4294967296 := fun m hm => by
  obtain ⟨c, _, rfl⟩ := List.mem_map.mp hm
  exact hv _
/-- an object, arguments out of the script, a call -/
theorem lw_side {R : List ix_V → Nat → ix_T → Prop} {K : ty_KT} {cs : List Nat} {st : List ix_V} {p o lv y mc ms kd lo hi : Nat} (hO : O 1000000 = some (L, f)) (hv : ∀ j, j < L → ix_g f j = .inl (v j)) (hL : L ≤ 3072) (hc : ∀ c ∈ cs, i + c < L) (hn : n + mc ≤ 16384) (hce : ce + mc ≤ 600000) (hsl : sl + ms ≤ 7302250) (hst : Nat.ble (ix_cats st) 8 = true)
    (hp9 : p + 9 + 5 * cs.length < 99999) (h0 : ∀ call, P call p = ix_load ix_isRef lv (p + 1)) (hlv : (lw_ls i)[lv]? = some (some (.inr (.inr (.inl (o + 1)))))) (hac : lw_ac O P (p + 1) cs) (hcl : ∀ call, P call (p + 1 + 5 * cs.length) = ix_call (ix_rcv kd) call (cs.length + 1) y mc ms 600000 7302250 (p + 4 + 5 * cs.length))
    (ho : o < 114) (hk : (ty_h.2 o).1 = kd) (hmc : ty_cp y = mc) (hKS : ty_KS ty_h M ty_cp d y K) (ha : ∀ γ Γ : Nat → Nat, ty_asms γ Γ n t K.1 (.inr (.inr (.inl (o + 1))) :: (cs.map (fun c => v (i + c))).map (fun m => (Sum.inl m : ix_V)))) (hV : ∀ e ∈ K.2.1, e = (79, 9, 4294967296, 4294967312, 15)) (hP : K.2.2 = [([(0, lo, hi, 0)], [], [], [])]) (hp : lw_hp n t) (hR : ∀ C, ty_ev M d y (.inr (.inr (.inl (o + 1))) :: (cs.map (fun c => v (i + c))).map (fun m => (Sum.inl m : ix_V))) n t C → R C.2.1 C.2.2.1 C.2.2.2.1) :
    ∃ r n' t', R [.inl r] n' t' ∧ r < 4294967296 ∧ lo ≤ ty_kp r ∧ ty_kp r ≤ hi ∧ lw_hp n' t' ∧ n' ≤ n + mc ∧ ty_rt M d P p (lw_ls i, st, n, t, ce, sl) (p + 4 + 5 * cs.length) (lw_ls i, .inl r :: st, n', t', ce + mc, sl + ms) := by
  subst hmc
  obtain ⟨r, C', c1, c2, c3, c4, c5, c6, c7⟩ := lw_evc hKS hp hn ha hV hP
  have e0 : ty_rt M d P p (lw_ls i, st, n, t, ce, sl) (p + 1) (lw_ls i, .inr (.inr (.inl (o + 1))) :: st, n, t, ce, sl) := ty_rt_step (by omega) ⟨0, fun g _ => by rw [h0]; exact pl_load hlv rfl⟩
  have e1 := lw_args (M := M) (d := d) (ce := ce) (sl := sl) (t := t) hO hv hL (show n ≤ 16384 by omega) cs (p + 1) (.inr (.inr (.inl (o + 1))) :: st) hac (by omega) hc
  have e2 : ty_rt M d P (p + 1 + 5 * cs.length) (lw_ls i, ((cs.map (fun c => v (i + c))).map (fun m => (Sum.inl m : ix_V))).reverse ++ .inr (.inr (.inl (o + 1))) :: st, n, t, ce, sl) (p + 4 + 5 * cs.length) (lw_ls i, .inl r :: st, C'.2.2.1, C'.2.2.2.1, ce + ty_cp y, sl + ms) := by
    obtain ⟨f0, hf0⟩ := c1
    refine ty_rt_step (by omega) ⟨f0, fun g hg => ?_⟩
    rw [hcl]
    have htk := lw_take (((cs.map (fun c => v (i + c))).map (fun m => (Sum.inl m : ix_V))).reverse ++ [(Sum.inr (Sum.inr (Sum.inl (o + 1))) : ix_V)]) [] st
    have hlen : (((cs.map (fun c => v (i + c))).map (fun m => (Sum.inl m : ix_V))).reverse ++ [(Sum.inr (Sum.inr (Sum.inl (o + 1))) : ix_V)]).length = cs.length + 1 := by simp
    have e3 : (((cs.map (fun c => v (i + c))).map (fun m => (Sum.inl m : ix_V))).reverse ++ [(Sum.inr (Sum.inr (Sum.inl (o + 1))) : ix_V)]) ++ st = ((cs.map (fun c => v (i + c))).map (fun m => (Sum.inl m : ix_V))).reverse ++ (Sum.inr (Sum.inr (Sum.inl (o + 1))) : ix_V) :: st := by simp
    have e4 : (((cs.map (fun c => v (i + c))).map (fun m => (Sum.inl m : ix_V))).reverse ++ [(Sum.inr (Sum.inr (Sum.inl (o + 1))) : ix_V)]).reverse ++ [] = (Sum.inr (Sum.inr (Sum.inl (o + 1))) : ix_V) :: (cs.map (fun c => v (i + c))).map (fun m => (Sum.inl m : ix_V)) := by simp
    rw [hlen, e3, e4] at htk
    have z := pl_callv (chk := ix_rcv kd) (call := ix_exec M ty_no g d) (na := cs.length + 1) (y := y) (mc := ty_cp y) (ms := ms) (cC := 600000) (cS := 7302250) (nx := p + 4 + 5 * cs.length) (n := n) (ce := ce) (sl := sl) (ls := lw_ls i) htk (lw_rcv hp ho hk) hst hce hsl (hf0 g hg)
    rw [c2] at z
    exact z
  exact ⟨r, C'.2.2.1, C'.2.2.2.1, (by rw [← c2]; exact hR C' c1), c3, c4, c5, c6, c7, e0.tr (e1.tr e2)⟩
/-- the same call of both, their answers dropped -/
theorem lw_two {R1 : List ix_V → Nat → ix_T → Prop} {R2 : Nat → ix_T → Prop} {K1 K2 : ty_KT} {cs : List Nat} {p q y1 y2 mc1 ms1 mc2 ms2 lo1 hi1 lo2 hi2 : Nat} (hO : O 1000000 = some (L, f)) (hv : ∀ j, j < L → ix_g f j = .inl (v j)) (hv32 : ∀ j, v j < 4294967296) (hL : L ≤ 3072) (hc : ∀ c ∈ cs, i + c < L) (hn : n + 16 ≤ 16384) (hce : ce + 16 ≤ 600000) (hsl : sl + 600 ≤ 7302250) (hp : lw_hp n t)
    (hq : q = p + 5 + 5 * cs.length) (hq9 : q + 9 + 5 * cs.length < 99999) (hm : mc1 + mc2 ≤ 16 ∧ ms1 + ms2 ≤ 600)
    (h0 : ∀ call, P call p = ix_load ix_isRef 1 (p + 1)) (hac : lw_ac O P (p + 1) cs) (hcl : ∀ call, P call (p + 1 + 5 * cs.length) = ix_call (ix_rcv 111) call (cs.length + 1) y1 mc1 ms1 600000 7302250 (p + 4 + 5 * cs.length)) (hpo : ∀ call, P call (p + 4 + 5 * cs.length) = ix_pop (p + 5 + 5 * cs.length))
    (g0 : ∀ call, P call q = ix_load ix_isRef 2 (q + 1)) (gac : lw_ac O P (q + 1) cs) (gcl : ∀ call, P call (q + 1 + 5 * cs.length) = ix_call (ix_rcv 112) call (cs.length + 1) y2 mc2 ms2 600000 7302250 (q + 4 + 5 * cs.length)) (gpo : ∀ call, P call (q + 4 + 5 * cs.length) = ix_pop (q + 5 + 5 * cs.length)) (ggo : ∀ call, P call (q + 5 + 5 * cs.length) = ix_goto 1493)
    (hm1 : ty_cp y1 = mc1) (hm2 : ty_cp y2 = mc2) (k1 : ty_KS ty_h M ty_cp d y1 K1) (k2 : ty_KS ty_h M ty_cp d y2 K2) (a1 : K1.1 = (2, 0, 0, 0) :: List.replicate cs.length (0, 2147483648, 6442450943, 0)) (a2 : K2.1 = (2, 79, 0, 0) :: List.replicate cs.length (0, 2147483648, 6442450943, 0)) (v1 : K1.2.1 = []) (v2 : K2.2.1 = [(79, 9, 4294967296, 4294967312, 15)]) (p1 : K1.2.2 = [([(0, lo1, hi1, 0)], [], [], [])]) (p2 : K2.2.2 = [([(0, lo2, hi2, 0)], [], [], [])]) (hR1 : ∀ C, ty_ev M d y1 (.inr (.inr (.inl (0 + 1))) :: (cs.map (fun c => v (i + c))).map (fun m => (Sum.inl m : ix_V))) n t C → R1 C.2.1 C.2.2.1 C.2.2.2.1) (hR2 : ∀ r n1 t1, R1 [.inl r] n1 t1 → lw_hp n1 t1 → ∀ C, ty_ev M d y2 (.inr (.inr (.inl (79 + 1))) :: (cs.map (fun c => v (i + c))).map (fun m => (Sum.inl m : ix_V))) n1 t1 C → R2 C.2.2.1 C.2.2.2.1) :
    ∃ n' t', (lw_hp n' t' ∧ R2 n' t') ∧ n' ≤ n + 16 ∧ ∃ ce' sl', ce' ≤ ce + 16 ∧ sl' ≤ sl + 600 ∧ ty_rt M d P p (lw_ls i, [], n, t, ce, sl) 1493 (lw_ls i, [], n', t', ce', sl') := by
  have asm : ∀ (o n : Nat) (t : ix_T), o < 114 → ∀ γ Γ : Nat → Nat, ty_asms γ Γ n t ((2, o, 0, 0) :: List.replicate cs.length (0, 2147483648, 6442450943, 0)) (.inr (.inr (.inl (o + 1))) :: (cs.map (fun c => v (i + c))).map (fun m => (Sum.inl m : ix_V))) := fun o n t ho γ Γ => by
    have z := lw_asms (γ := γ) (Γ := Γ) (n := n) (t := t) (cs.map (fun c => v (i + c))) (lw_vlt hv32)
    rw [List.length_map] at z
    exact ⟨⟨rfl, ho⟩, z⟩
  obtain ⟨r1, n1, t1, z1, _, _, _, x1, x2, x3⟩ := lw_side (R := R1) (st := []) hO hv hL hc (show n + mc1 ≤ 16384 by omega) (show ce + mc1 ≤ 600000 by omega) (show sl + ms1 ≤ 7302250 by omega) rfl (by omega) h0 rfl hac hcl (show 0 < 114 by decide) rfl hm1 k1 (by rw [a1]; exact asm _ _ _ (by decide)) (by rw [v1]; exact fun e he => absurd he List.not_mem_nil) p1 hp hR1
  have e1 : ty_rt M d P (p + 4 + 5 * cs.length) (lw_ls i, [.inl r1], n1, t1, ce + mc1, sl + ms1) q (lw_ls i, [], n1, t1, ce + mc1, sl + ms1) := ty_rt_step (by omega) ⟨0, fun g _ => by rw [hpo, ← hq]; rfl⟩
  obtain ⟨r2, n2, t2, z2, _, _, _, y1', y2', y3⟩ := lw_side (R := fun _ => R2) (st := []) (ce := ce + mc1) (sl := sl + ms1) hO hv hL hc (show n1 + mc2 ≤ 16384 by omega) (show ce + mc1 + mc2 ≤ 600000 by omega) (show sl + ms1 + ms2 ≤ 7302250 by omega) rfl (by omega) g0 rfl gac gcl (show 79 < 114 by decide) rfl hm2 k2 (by rw [a2]; exact asm _ _ _ (by decide)) (by rw [v2]; exact fun e he => List.mem_singleton.mp he) p2 x1 (hR2 r1 n1 t1 z1 x1)
  have e2 : ty_rt M d P (q + 4 + 5 * cs.length) (lw_ls i, [.inl r2], n2, t2, ce + mc1 + mc2, sl + ms1 + ms2) (q + 5 + 5 * cs.length) (lw_ls i, [], n2, t2, ce + mc1 + mc2, sl + ms1 + ms2) := ty_rt_step (by omega) ⟨0, fun g _ => by rw [gpo]; rfl⟩
  have e3 : ty_rt M d P (q + 5 + 5 * cs.length) (lw_ls i, [], n2, t2, ce + mc1 + mc2, sl + ms1 + ms2) 1493 (lw_ls i, [], n2, t2, ce + mc1 + mc2, sl + ms1 + ms2) := ty_rt_step (by omega) ⟨0, fun g _ => by rw [ggo]; rfl⟩
  exact ⟨n2, t2, ⟨y1', z2⟩, by omega, ce + mc1 + mc2, sl + ms1 + ms2, by omega, by omega, x3.tr (e1.tr (y3.tr (e2.tr e3)))⟩
/-- the same call of both, the argument in a box -/
theorem lw_bx1 {R1 : List ix_V → Nat → ix_T → Prop} {R2 : Nat → ix_T → Prop} {K1 K2 : ty_KT} {p q y1 y2 mc1 ms1 mc2 ms2 lo hi z : Nat} (hO : O 1000000 = some (L, f)) (hv : ∀ j, j < L → ix_g f j = .inl (v j)) (hv32 : ∀ j, v j < 4294967296) (hL : L ≤ 3072) (hc : ∀ c ∈ [1], i + c < L) (hn : n + 16 ≤ 16384) (hce : ce + 16 ≤ 600000) (hsl : sl + 600 ≤ 7302250) (hp : lw_hp n t) (hlo : lo ≤ ty_kp (v (i + 1))) (hhi : ty_kp (v (i + 1)) ≤ hi)
    (hq : q = p + 5 + 5 * 1) (hq9 : q + 9 + 5 * 1 < 99999) (hm : mc1 + mc2 ≤ 16 ∧ ms1 + ms2 ≤ 600)
    (h0 : ∀ call, P call p = ix_load ix_isRef 1 (p + 1)) (hac : lw_ac O P (p + 1) [1]) (hcl : ∀ call, P call (p + 1 + 5 * 1) = ix_call (ix_rcv 111) call (1 + 1) y1 mc1 ms1 600000 7302250 (p + 4 + 5 * 1)) (hpo : ∀ call, P call (p + 4 + 5 * 1) = ix_pop (p + 5 + 5 * 1))
    (g0 : ∀ call, P call q = ix_load ix_isRef 2 (q + 1)) (gac : lw_ac O P (q + 1) [1]) (gcl : ∀ call, P call (q + 1 + 5 * 1) = ix_call (ix_rcv 112) call (1 + 1) y2 mc2 ms2 600000 7302250 (q + 4 + 5 * 1)) (gpo : ∀ call, P call (q + 4 + 5 * 1) = ix_pop (q + 5 + 5 * 1)) (ggo : ∀ call, P call (q + 5 + 5 * 1) = ix_goto 1493)
    (hm1 : ty_cp y1 = mc1) (hm2 : ty_cp y2 = mc2) (k1 : ty_KS ty_h M ty_cp d y1 K1) (k2 : ty_KS ty_h M ty_cp d y2 K2) (a1 : K1.1 = [(2, 0, 0, 0), (0, lo, hi, 0)]) (a2 : K2.1 = [(2, 79, 0, 0), (0, lo, hi, 0)]) (v1 : K1.2.1 = []) (v2 : K2.2.1 = [(79, 9, 4294967296, 4294967312, 15)]) (p1 : K1.2.2 = [([(0, z, z, 0)], [], [], [])]) (p2 : K2.2.2 = [([(0, z, z, 0)], [], [], [])]) (hR1 : ∀ C, ty_ev M d y1 (.inr (.inr (.inl (0 + 1))) :: ([1].map (fun c => v (i + c))).map (fun m => (Sum.inl m : ix_V))) n t C → R1 C.2.1 C.2.2.1 C.2.2.2.1) (hR2 : ∀ r n1 t1, R1 [.inl r] n1 t1 → lw_hp n1 t1 → ∀ C, ty_ev M d y2 (.inr (.inr (.inl (79 + 1))) :: ([1].map (fun c => v (i + c))).map (fun m => (Sum.inl m : ix_V))) n1 t1 C → R2 C.2.2.1 C.2.2.2.1) :
    ∃ n' t', (lw_hp n' t' ∧ R2 n' t') ∧ n' ≤ n + 16 ∧ ∃ ce' sl', ce' ≤ ce + 16 ∧ sl' ≤ sl + 600 ∧ ty_rt M d P p (lw_ls i, [], n, t, ce, sl) 1493 (lw_ls i, [], n', t', ce', sl') := by
  have asm : ∀ (o n : Nat) (t : ix_T), o < 114 → ∀ γ Γ : Nat → Nat, ty_asms γ Γ n t [(2, o, 0, 0), (0, lo, hi, 0)] (.inr (.inr (.inl (o + 1))) :: ([1].map (fun c => v (i + c))).map (fun m => (Sum.inl m : ix_V))) := fun o n t ho γ Γ => ⟨⟨rfl, ho⟩, ⟨_, rfl, hv32 _, hlo, hhi, Or.inl rfl⟩, trivial⟩
  obtain ⟨r1, n1, t1, z1, _, _, _, x1, x2, x3⟩ := lw_side (cs := [1]) (R := R1) (st := []) hO hv hL hc (show n + mc1 ≤ 16384 by omega) (show ce + mc1 ≤ 600000 by omega) (show sl + ms1 ≤ 7302250 by omega) rfl (show p + 9 + 5 < 99999 by omega) h0 rfl hac hcl (show 0 < 114 by decide) rfl hm1 k1 (by rw [a1]; exact asm _ _ _ (by decide)) (by rw [v1]; exact fun e he => absurd he List.not_mem_nil) p1 hp hR1
  have e1 : ty_rt M d P (p + 4 + 5 * 1) (lw_ls i, [.inl r1], n1, t1, ce + mc1, sl + ms1) q (lw_ls i, [], n1, t1, ce + mc1, sl + ms1) := ty_rt_step (by omega) ⟨0, fun g _ => by rw [hpo, ← hq]; rfl⟩
  obtain ⟨r2, n2, t2, z2, _, _, _, y1', y2', y3⟩ := lw_side (cs := [1]) (R := fun _ => R2) (st := []) (ce := ce + mc1) (sl := sl + ms1) hO hv hL hc (show n1 + mc2 ≤ 16384 by omega) (show ce + mc1 + mc2 ≤ 600000 by omega) (show sl + ms1 + ms2 ≤ 7302250 by omega) rfl (show q + 9 + 5 < 99999 by omega) g0 rfl gac gcl (show 79 < 114 by decide) rfl hm2 k2 (by rw [a2]; exact asm _ _ _ (by decide)) (by rw [v2]; exact fun e he => List.mem_singleton.mp he) p2 x1 (hR2 r1 n1 t1 z1 x1)
  have e2 : ty_rt M d P (q + 4 + 5 * 1) (lw_ls i, [.inl r2], n2, t2, ce + mc1 + mc2, sl + ms1 + ms2) (q + 5 + 5 * 1) (lw_ls i, [], n2, t2, ce + mc1 + mc2, sl + ms1 + ms2) := ty_rt_step (by omega) ⟨0, fun g _ => by rw [gpo]; rfl⟩
  have e3 : ty_rt M d P (q + 5 + 5 * 1) (lw_ls i, [], n2, t2, ce + mc1 + mc2, sl + ms1 + ms2) 1493 (lw_ls i, [], n2, t2, ce + mc1 + mc2, sl + ms1 + ms2) := ty_rt_step (by omega) ⟨0, fun g _ => by rw [ggo]; rfl⟩
  exact ⟨n2, t2, ⟨y1', z2⟩, by omega, ce + mc1 + mc2, sl + ms1 + ms2, by omega, by omega, x3.tr (e1.tr (y3.tr (e2.tr e3)))⟩
/-- the same call of both, their answers compared -/
theorem lw_cmp {R1 : List ix_V → Nat → ix_T → Prop} {R2 : Nat → ix_T → Prop} {K1 K2 : ty_KT} {cs : List Nat} {p q y1 y2 mc1 ms1 mc2 ms2 lo1 hi1 lo2 hi2 : Nat} (hO : O 1000000 = some (L, f)) (hv : ∀ j, j < L → ix_g f j = .inl (v j)) (hv32 : ∀ j, v j < 4294967296) (hL : L ≤ 3072) (hc : ∀ c ∈ cs, i + c < L) (hn : n + 16 ≤ 16384) (hce : ce + 16 ≤ 600000) (hsl : sl + 600 ≤ 7302250) (hp : lw_hp n t)
    (hq : q = p + 4 + 5 * cs.length) (hq9 : q + 9 + 5 * cs.length < 99999) (hm : mc1 + mc2 ≤ 16 ∧ ms1 + ms2 ≤ 600)
    (h0 : ∀ call, P call p = ix_load ix_isRef 1 (p + 1)) (hac : lw_ac O P (p + 1) cs) (hcl : ∀ call, P call (p + 1 + 5 * cs.length) = ix_call (ix_rcv 111) call (cs.length + 1) y1 mc1 ms1 600000 7302250 (p + 4 + 5 * cs.length))
    (g0 : ∀ call, P call q = ix_load ix_isRef 2 (q + 1)) (gac : lw_ac O P (q + 1) cs) (gcl : ∀ call, P call (q + 1 + 5 * cs.length) = ix_call (ix_rcv 112) call (cs.length + 1) y2 mc2 ms2 600000 7302250 (q + 4 + 5 * cs.length)) (ggo : ∀ call, P call (q + 4 + 5 * cs.length) = ix_icmp false false false 1493 (q + 7 + 5 * cs.length))
    (hm1 : ty_cp y1 = mc1) (hm2 : ty_cp y2 = mc2) (k1 : ty_KS ty_h M ty_cp d y1 K1) (k2 : ty_KS ty_h M ty_cp d y2 K2) (a1 : K1.1 = (2, 0, 0, 0) :: List.replicate cs.length (0, 2147483648, 6442450943, 0)) (a2 : K2.1 = (2, 79, 0, 0) :: List.replicate cs.length (0, 2147483648, 6442450943, 0)) (v1 : K1.2.1 = []) (v2 : K2.2.1 = [(79, 9, 4294967296, 4294967312, 15)]) (p1 : K1.2.2 = [([(0, lo1, hi1, 0)], [], [], [])]) (p2 : K2.2.2 = [([(0, lo2, hi2, 0)], [], [], [])]) (hR1 : ∀ C, ty_ev M d y1 (.inr (.inr (.inl (0 + 1))) :: (cs.map (fun c => v (i + c))).map (fun m => (Sum.inl m : ix_V))) n t C → R1 C.2.1 C.2.2.1 C.2.2.2.1) (hR2 : ∀ r n1 t1, R1 [.inl r] n1 t1 → lw_hp n1 t1 → ∀ C, ty_ev M d y2 (.inr (.inr (.inl (79 + 1))) :: (cs.map (fun c => v (i + c))).map (fun m => (Sum.inl m : ix_V))) n1 t1 C → C.2.1 = [.inl r] ∧ R2 C.2.2.1 C.2.2.2.1) :
    ∃ n' t', (lw_hp n' t' ∧ R2 n' t') ∧ n' ≤ n + 16 ∧ ∃ ce' sl', ce' ≤ ce + 16 ∧ sl' ≤ sl + 600 ∧ ty_rt M d P p (lw_ls i, [], n, t, ce, sl) 1493 (lw_ls i, [], n', t', ce', sl') := by
  have asm : ∀ (o n : Nat) (t : ix_T), o < 114 → ∀ γ Γ : Nat → Nat, ty_asms γ Γ n t ((2, o, 0, 0) :: List.replicate cs.length (0, 2147483648, 6442450943, 0)) (.inr (.inr (.inl (o + 1))) :: (cs.map (fun c => v (i + c))).map (fun m => (Sum.inl m : ix_V))) := fun o n t ho γ Γ => by
    have z := lw_asms (γ := γ) (Γ := Γ) (n := n) (t := t) (cs.map (fun c => v (i + c))) (lw_vlt hv32)
    rw [List.length_map] at z
    exact ⟨⟨rfl, ho⟩, z⟩
  obtain ⟨r1, n1, t1, z1, _, _, _, x1, x2, x3⟩ := lw_side (R := R1) (st := []) hO hv hL hc (show n + mc1 ≤ 16384 by omega) (show ce + mc1 ≤ 600000 by omega) (show sl + ms1 ≤ 7302250 by omega) rfl (by omega) h0 rfl hac hcl (show 0 < 114 by decide) rfl hm1 k1 (by rw [a1]; exact asm _ _ _ (by decide)) (by rw [v1]; exact fun e he => absurd he List.not_mem_nil) p1 hp hR1
  rw [← hq] at x3
  obtain ⟨r2, n2, t2, z2, _, _, _, y1', y2', y3⟩ := lw_side (R := fun l n' t' => l = [.inl r1] ∧ R2 n' t') (st := [.inl r1]) (ce := ce + mc1) (sl := sl + ms1) hO hv hL hc (show n1 + mc2 ≤ 16384 by omega) (show ce + mc1 + mc2 ≤ 600000 by omega) (show sl + ms1 + ms2 ≤ 7302250 by omega) rfl (by omega) g0 rfl gac gcl (show 79 < 114 by decide) rfl hm2 k2 (by rw [a2]; exact asm _ _ _ (by decide)) (by rw [v2]; exact fun e he => List.mem_singleton.mp he) p2 x1 (hR2 r1 n1 t1 z1 x1)
  have er : r1 = r2 := by
    have z := z2.1
    cases z
    rfl
  have e3 : ty_rt M d P (q + 4 + 5 * cs.length) (lw_ls i, [.inl r2, .inl r1], n2, t2, ce + mc1 + mc2, sl + ms1 + ms2) 1493 (lw_ls i, [], n2, t2, ce + mc1 + mc2, sl + ms1 + ms2) := ty_rt_step (by omega) ⟨0, fun g _ => by rw [ggo]; exact pl_eq_y er⟩
  exact ⟨n2, t2, ⟨y1', z2.2⟩, by omega, ce + mc1 + mc2, sl + ms1 + ms2, by omega, by omega, x3.tr (y3.tr e3)⟩
end LWA
