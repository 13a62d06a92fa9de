/-! the typed machine's stores into rows -/
section TYS
variable {h : ty_H} {cp : Nat × Nat} {pc : Nat}
/-- every rule that may speak of such a place is kept -/
noncomputable def ty_rst (lo hi a b : Nat) : List (Nat × (Nat × (Nat × (Nat × (Nat × Nat))))) → Bool
  | [] => true
  | q :: R => (Nat.blt hi q.1 || (Nat.blt q.2.1 lo || ((Nat.beq lo hi && !(Nat.beq (Nat.mod lo q.2.2.1) q.2.2.2.1)) || (Nat.ble q.2.2.2.2.1 a && Nat.ble b q.2.2.2.2.2)))) && ty_rst lo hi a b R
theorem ty_rst_ok {lo hi a b k x : Nat} (h1 : lo ≤ k) (h2 : k ≤ hi) (h3 : a ≤ ty_kp x) (h4 : ty_kp x ≤ b) : ∀ (R : List (Nat × (Nat × (Nat × (Nat × (Nat × Nat)))))), ty_rst lo hi a b R = true → ∀ q ∈ R, ty_hit q k → q.2.2.2.2.1 ≤ ty_kp x ∧ ty_kp x ≤ q.2.2.2.2.2
  | [], _, q, hq, _ => by cases hq
  | r :: R, he, q, hq, hh => by
    have c := Bool.and_eq_true_iff.mp (show ((Nat.blt hi r.1 || (Nat.blt r.2.1 lo || ((Nat.beq lo hi && !(Nat.beq (Nat.mod lo r.2.2.1) r.2.2.2.1)) || (Nat.ble r.2.2.2.2.1 a && Nat.ble b r.2.2.2.2.2)))) && ty_rst lo hi a b R) = true from he)
    rcases List.mem_cons.mp hq with rfl | hq
    · obtain ⟨g1, g2, g3⟩ := hh
      rcases (Bool.or_eq_true _ _).mp c.1 with z | z
      · have := ix_blt.mp z; omega
      · rcases (Bool.or_eq_true _ _).mp z with z | z
        · have := ix_blt.mp z; omega
        · rcases (Bool.or_eq_true _ _).mp z with z | z
          · have z1 := Bool.and_eq_true_iff.mp z
            have e := ix_beq.mp z1.1
            have ek : k = lo := by omega
            rw [ek] at g3
            have z2 := z1.2
            rw [ix_beq.mpr (show Nat.mod lo q.2.2.1 = q.2.2.2.1 from g3)] at z2
            cases z2
          · have z1 := Bool.and_eq_true_iff.mp z
            have z2 := ix_ble.mp z1.1
            have z3 := ix_ble.mp z1.2
            omega
    · exact ty_rst_ok h1 h2 h3 h4 R c.2 q hq hh
noncomputable def ty_ast (h : ty_H) (k0 k1 nx : Nat) (aok : Nat → ty_A → ix_V → Bool) : ty_S → ty_R
  | (W, L, v :: j :: .inr (.inr (.inl r)) :: st, w) => match r with
    | 0 => none
    | p + 1 => cond (Nat.blt p (Nat.add h.1 W.2.2.1.1) && (Nat.ble k0 (h.2 (ty_ty h W p)).1 && (Nat.ble (h.2 (ty_ty h W p)).1 k1 && (Nat.blt (h.2 (ty_ty h W p)).1 100 && (ty_idx h W p j && (aok (h.2 (ty_ty h W p)).1 W.1 v && (ty_vok h W (ix_g (h.2 (ty_ty h W p)).2.2.2.1 0) v && (Nat.ble (h.2 (ty_ty h W p)).2.2.1 16384 && (ty_nps h W p (ty_nz W.1 j) && (Nat.ble 3 (h.2 (ty_ty h W p)).1 || ty_rst (Nat.sub (ty_rng W.1 j).1 4294967296) (Nat.sub (ty_rng W.1 j).2 4294967296) (ty_rng W.1 v).1 (ty_rng W.1 v).2 (h.2 (ty_ty h W p)).2.2.2.2))))))))))
      (some [(nx, (ty_kn (ty_stl h W p (ty_nz W.1 j)) ((p, ty_nz W.1 j), v), L, st, w))]) none
  | _ => none
/-- what is stored is what was there -/
def ty_okn (k0 k1 : Nat) (aok : Nat → ty_A → ix_V → Bool) (ok : ix_V → Bool) (nar : Nat → ix_V → ix_V) : Prop := ∀ kd, k0 ≤ kd → kd ≤ k1 → ∀ (A : ty_A) (k2 : Nat × Nat) (σ : ty_Sg) (v w : ix_V), ty_bx σ.1 A → ty_rv (A.1, k2) σ v w → aok kd A v = true → ok w = true ∧ nar kd w = w
theorem ts_ast {k0 k1 q nx : Nat} {aok : Nat → ty_A → ix_V → Bool} {ok : ix_V → Bool} {nar : Nat → ix_V → ix_V} (hk : ty_okn k0 k1 aok ok nar) : ty_sd h cp pc (fun _ => ix_ast k0 k1 q nx nar ok) (ty_ast h k0 k1 nx aok) := by
  intro S outs hs σ C hi
  obtain ⟨W, L, st, w⟩ := S
  obtain ⟨ls, stk, n, t, ce, sl⟩ := C
  rcases st with _ | ⟨v, _ | ⟨j, _ | ⟨a, st⟩⟩⟩
  · cases hs
  · cases hs
  · cases hs
  · rcases a with b | l | r | y
    · cases hs
    · cases hs
    · cases r with
      | zero => cases hs
      | succ p =>
        change cond (Nat.blt p (Nat.add h.1 W.2.2.1.1) && (Nat.ble k0 (h.2 (ty_ty h W p)).1 && (Nat.ble (h.2 (ty_ty h W p)).1 k1 && (Nat.blt (h.2 (ty_ty h W p)).1 100 && (ty_idx h W p j && (aok (h.2 (ty_ty h W p)).1 W.1 v && (ty_vok h W (ix_g (h.2 (ty_ty h W p)).2.2.2.1 0) v && (Nat.ble (h.2 (ty_ty h W p)).2.2.1 16384 && (ty_nps h W p (ty_nz W.1 j) && (Nat.ble 3 (h.2 (ty_ty h W p)).1 || ty_rst (Nat.sub (ty_rng W.1 j).1 4294967296) (Nat.sub (ty_rng W.1 j).2 4294967296) (ty_rng W.1 v).1 (ty_rng W.1 v).2 (h.2 (ty_ty h W p)).2.2.2.2)))))))))) _ none = some outs at hs
        cases hc : (Nat.blt p (Nat.add h.1 W.2.2.1.1) && (Nat.ble k0 (h.2 (ty_ty h W p)).1 && (Nat.ble (h.2 (ty_ty h W p)).1 k1 && (Nat.blt (h.2 (ty_ty h W p)).1 100 && (ty_idx h W p j && (aok (h.2 (ty_ty h W p)).1 W.1 v && (ty_vok h W (ix_g (h.2 (ty_ty h W p)).2.2.2.1 0) v && (Nat.ble (h.2 (ty_ty h W p)).2.2.1 16384 && (ty_nps h W p (ty_nz W.1 j) && (Nat.ble 3 (h.2 (ty_ty h W p)).1 || ty_rst (Nat.sub (ty_rng W.1 j).1 4294967296) (Nat.sub (ty_rng W.1 j).2 4294967296) (ty_rng W.1 v).1 (ty_rng W.1 v).2 (h.2 (ty_ty h W p)).2.2.2.2)))))))))) with
        | false => rw [hc] at hs; cases hs
        | true =>
          rw [hc] at hs
          dsimp only [cond_true] at hs
          have ho := Option.some.inj hs
          have c1 := Bool.and_eq_true_iff.mp hc
          have c2 := Bool.and_eq_true_iff.mp c1.2
          have c3 := Bool.and_eq_true_iff.mp c2.2
          have c4 := Bool.and_eq_true_iff.mp c3.2
          have c5 := Bool.and_eq_true_iff.mp c4.2
          have c6 := Bool.and_eq_true_iff.mp c5.2
          have c7 := Bool.and_eq_true_iff.mp c6.2
          have c8 := Bool.and_eq_true_iff.mp c7.2
          have c9 := Bool.and_eq_true_iff.mp c8.2
          have hp : p < h.1 + W.2.2.1.1 := ix_blt.mp c1.1
          have g1 := ix_ble.mp c2.1
          have g2 := ix_ble.mp c3.1
          have g3 := ix_blt.mp c4.1
          have g4 := ix_ble.mp c8.1
          obtain ⟨x, stk1, e1, x2, x3⟩ := ty_vs_1 hi.2.2.1
          obtain ⟨y, stk2, e2, y2, y3⟩ := ty_vs_1 x3
          obtain ⟨z, stk3, e3, z2, z3⟩ := ty_vs_1 y3
          have e' : stk = x :: y :: z :: stk3 := by rw [← e3, ← e2]; exact e1
          subst e'
          have hz := ty_named hi.1 z2 hp
          subst hz
          have hI : ty_isI j = true := (Bool.and_eq_true_iff.mp c5.1).1
          obtain ⟨m, rfl, hm⟩ := y2.toint hI
          obtain ⟨hl, hm2, hm3⟩ := ty_idx_ok hi.1 hp hm c5.1
          obtain ⟨hn, hty⟩ := ty_ty_ok hi.1 hp
          have hcok := hi.1.2.2.1.2.2.2.1 _ hn
          rw [hty] at hcok
          have ek : (ix_g t (σ.2.2.1 p)).1 = (h.2 (ty_ty h W p)).1 := hcok.1
          have el : (ix_g t (σ.2.2.1 p)).2.1 ≤ (h.2 (ty_ty h W p)).2.2.1 := hcok.2.2.1
          obtain ⟨hok, hnar⟩ := hk _ g1 g2 W.1 _ σ v x hi.1.1 x2 c6.1
          have hd : (ix_g t (σ.2.2.1 p)).2.1 ≤ 2 ^ ix_dep (ix_g t (σ.2.2.1 p)).2.1 := by
            unfold ix_dep
            cases hb : Nat.ble (ix_g t (σ.2.2.1 p)).2.1 64 with
            | true => have := ix_ble.mp hb; show _ ≤ 2 ^ 6; have : (2 : Nat) ^ 6 = 64 := rfl; omega
            | false => show _ ≤ 2 ^ 14; have : (2 : Nat) ^ 14 = 16384 := rfl; omega
          have hso := ty_vok_ok hi.1 x2 c7.1
          have rr9 : (ty_rng W.1 j).1 ≤ ty_kp m ∧ ty_kp m ≤ (ty_rng W.1 j).2 := ty_rng_ok hi.1.1 hm
          have hput := ty_put (d := ix_dep (ix_g t (σ.2.2.1 p)).2.1) (w := x) hi.1 hp (ty_nz_ok hi.1.1 hm) hl hm2 hd (by unfold ix_dep; cases Nat.ble (ix_g t (σ.2.2.1 p)).2.1 64 <;> decide) (fun q => by unfold ix_dep; rw [ix_ble_f.mpr (Nat.not_le.mpr q)]; rfl) c9.1 (fun T hT => by
            subst hT
            refine ⟨fun q => absurd (show 100 ≤ (h.2 (ty_ty h W p)).1 from q) (by omega), fun _ => hso, fun q r1 hr1 hh x9 hx9 => ?_⟩
            have q' : (h.2 (ty_ty h W p)).1 < 3 := q
            rcases (Bool.or_eq_true _ _).mp c9.2 with zz | zz
            · have := ix_ble.mp zz; omega
            · subst hx9
              have hxi : ty_iv W.1.1 σ.1 v x9 := by
                rcases v with b9 | l9 | r9 | y9
                · obtain ⟨n9, e9, h9⟩ := x2; cases e9; exact h9
                · obtain ⟨n9, e9, _⟩ := x2; cases e9
                · cases r9 with
                  | zero => cases (show (Sum.inl x9 : ix_V) = Sum.inr (Sum.inr (Sum.inl 0)) from x2)
                  | succ r9 => rcases x2 with x2 | x2 <;> cases x2.2
                · obtain ⟨n9, e9, h9⟩ := x2; cases e9; exact h9
              have rv : (ty_rng W.1 v).1 ≤ ty_kp x9 ∧ ty_kp x9 ≤ (ty_rng W.1 v).2 := ty_rng_ok hi.1.1 hxi
              exact ty_rst_ok (by show (ty_rng W.1 j).1 - 4294967296 ≤ m; omega) (by show m ≤ (ty_rng W.1 j).2 - 4294967296; omega) rv.1 rv.2 _ zz r1 hr1 hh)
          have hfact := ty_put_f (d := ix_dep (ix_g t (σ.2.2.1 p)).2.1) (v := v) hn hi.1.2.2.1.2.1 hp (ty_nz_ok hi.1.1 hm) hl hd x2
          refine ⟨(nx, (ty_kn (ty_stl h W p (ty_nz W.1 j)) ((p, ty_nz W.1 j), v), L, st, w)), by rw [← ho]; exact List.mem_cons_self, σ, (ls, stk3, n, ix_u 14 t (σ.2.2.1 p) ((ix_g t (σ.2.2.1 p)).1, (ix_g t (σ.2.2.1 p)).2.1, ix_u (ix_dep (ix_g t (σ.2.2.1 p)).2.1) (ix_g t (σ.2.2.1 p)).2.2 m x), ce, sl), ty_mo.rf, ty_agr.rf, ⟨hput.kn hfact, hi.2.1, z3, hi.2.2.2⟩, Or.inr ⟨0, fun g _ => ?_⟩⟩
          show cond (Nat.blt (σ.2.2.1 p) n && ok x) (match ix_g t (σ.2.2.1 p) with
            | (kd, len, f) => cond (Nat.ble k0 kd && Nat.ble kd k1) (cond (Nat.blt m len) (some [(nx, ([], ls, stk3, n, ix_u 14 t (σ.2.2.1 p) (kd, len, ix_u (ix_dep len) f m (nar kd x)), ce, sl))]) none) none) none = _
          rw [ix_blt.mpr hn, hok]
          show cond (Nat.ble k0 (ix_g t (σ.2.2.1 p)).1 && Nat.ble (ix_g t (σ.2.2.1 p)).1 k1) (cond (Nat.blt m (ix_g t (σ.2.2.1 p)).2.1) (some [(nx, ([], ls, stk3, n, ix_u 14 t (σ.2.2.1 p) ((ix_g t (σ.2.2.1 p)).1, (ix_g t (σ.2.2.1 p)).2.1, ix_u (ix_dep (ix_g t (σ.2.2.1 p)).2.1) (ix_g t (σ.2.2.1 p)).2.2 m (nar (ix_g t (σ.2.2.1 p)).1 x)), ce, sl))]) none) none = _
          rw [ix_ble.mpr (show k0 ≤ (ix_g t (σ.2.2.1 p)).1 by omega), ix_ble.mpr (show (ix_g t (σ.2.2.1 p)).1 ≤ k1 by omega), ix_blt.mpr hl, ek, hnar]
          rfl
    · cases hs
end TYS
