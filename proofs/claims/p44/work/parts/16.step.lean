/-! boxes, conditions, and what it is that a step of ours is one of Java's -/
theorem ix_box_ok {σ : ix_Sg} {B : ix_B} (h : ix_ib σ B) (x : Nat) : (ix_box B x).1 ≤ ix_bz (σ.1 x) ∧ ix_bz (σ.1 x) ≤ (ix_box B x).2 := by
  unfold ix_box
  rw [List.getD_eq_getElem?_getD]
  cases hb : B[x]? with
  | none =>
    have := ix_bz_lt (σ.1 x)
    exact ⟨Nat.zero_le _, by show _ ≤ 4294967295; omega⟩
  | some q =>
    obtain ⟨lo, hi⟩ := q
    exact h x lo hi hb
theorem ix_ib.set {σ : ix_Sg} {B : ix_B} (h : ix_ib σ B) {x lo hi : Nat} (h1 : lo ≤ ix_bz (σ.1 x)) (h2 : ix_bz (σ.1 x) ≤ hi) : ix_ib σ (B.set x (lo, hi)) := by
  intro y lo' hi' hy
  by_cases e : x = y
  · subst e
    rw [List.getElem?_set] at hy
    simp only [if_true] at hy
    split at hy
    · cases hy; exact ⟨h1, h2⟩
    · cases hy
  · rw [List.getElem?_set_ne e] at hy
    exact h y lo' hi' hy
theorem ix_each_mem (B : ix_B) (x : Nat) : ∀ (k lo j : Nat), lo ≤ j → j < lo + k → B.set x (j, j) ∈ ix_each B x lo k
  | 0, lo, j, h1, h2 => by omega
  | k + 1, lo, j, h1, h2 => by
    show _ ∈ B.set x (lo, lo) :: ix_each B x (lo + 1) k
    by_cases e : lo = j
    · subst e; exact List.mem_cons_self
    · exact List.mem_cons_of_mem _ (ix_each_mem B x k (lo + 1) j (by omega) (by omega))
theorem ix_split_ok {σ : ix_Sg} {pc : Nat} {S : ix_S} {x : Nat} {outs : List (Nat × ix_S)} (h : ix_split pc S x = some outs) (hB : ix_ib σ S.1) : ∃ b, (pc, (b, S.2)) ∈ outs ∧ ix_ib σ b := by
  unfold ix_split at h
  have hx := ix_box_ok hB x
  revert h hx
  generalize ix_box S.1 x = q
  obtain ⟨lo, hi⟩ := q
  intro h hx
  dsimp only at h hx
  cases hc : (Nat.ble (Nat.sub hi lo) 130 && (Nat.ble lo hi && (Nat.blt 0 x && Nat.blt x S.1.length))) with
  | false => rw [hc] at h; cases h
  | true =>
    rw [hc] at h
    cases h
    refine ⟨S.1.set x (ix_bz (σ.1 x), ix_bz (σ.1 x)), ?_, hB.set (Nat.le_refl _) (Nat.le_refl _)⟩
    refine List.mem_map.mpr ⟨_, ix_each_mem S.1 x _ lo _ hx.1 ?_, rfl⟩
    show _ < lo + ((hi - lo) + 1)
    omega
theorem ix_blt {a b : Nat} : Nat.blt a b = true ↔ a < b := by
  unfold Nat.blt
  rw [Nat.ble_eq]
  exact Nat.succ_le_iff
theorem ix_blt_f {a b : Nat} : Nat.blt a b = false ↔ ¬ a < b := by
  rw [← ix_blt]; cases Nat.blt a b <;> simp
theorem ix_ble {a b : Nat} : Nat.ble a b = true ↔ a ≤ b := by rw [Nat.ble_eq]
theorem ix_ble_f {a b : Nat} : Nat.ble a b = false ↔ ¬ a ≤ b := by
  rw [← ix_ble]; cases Nat.ble a b <;> simp
theorem ix_beq {a b : Nat} : Nat.beq a b = true ↔ a = b := by rw [Nat.beq_eq]
theorem ix_beq_f {a b : Nat} : Nat.beq a b = false ↔ ¬ a = b := by
  rw [← ix_beq]; cases Nat.beq a b <;> simp
theorem ix_nrm_ok {σ : ix_Sg} {ad : Nat → Option Nat} {B : ix_B} {x : ix_V} {v : Value} (hB : ix_ib σ B) (h : ix_rv σ ad x v) : ix_rv σ ad (ix_nrm B x) v := by
  match x, h with
  | .inl _, h => exact h
  | .inr (.inl _), h => exact h
  | .inr (.inr (.inl _)), h => exact h
  | .inr (.inr (.inr (y, c))), h =>
    show ix_rv σ ad (cond (Nat.beq y 0) _ _) v
    cases hy : Nat.beq y 0 with
    | true => exact h
    | false =>
      have hy := ix_beq_f.mp hy
      have hx := ix_box_ok hB y
      show ix_rv σ ad (match ix_box B y with | (lo, hi) => cond (Nat.beq lo hi) (ix_vI (ix_add (ix_bias lo) c)) (.inr (.inr (.inr (y, c))))) v
      revert hx
      generalize ix_box B y = q
      obtain ⟨lo, hi⟩ := q
      intro hx
      dsimp only at hx ⊢
      cases hc : Nat.beq lo hi with
      | false => exact h
      | true =>
        have hc := ix_beq.mp hc
        obtain ⟨hc0, z, hz, hz2⟩ := h
        refine ⟨ix_add_lt _ _, ?_⟩
        rw [hz, ix_add_ok]
        rcases hz2 with hz2 | hz2
        · exact absurd hz2 hy
        · rw [hz2, ← ix_unb (show ix_bz (σ.1 y) = lo by omega)]
/-- what two lists of boxes say of a condition -/
def ix_cd (σ : ix_Sg) (r : List ix_B × List ix_B) (P : Prop) : Prop := (P → ∃ b ∈ r.1, ix_ib σ b) ∧ (¬ P → ∃ b ∈ r.2, ix_ib σ b)
theorem ix_cd.yes {σ : ix_Sg} {B : ix_B} {P : Prop} (hB : ix_ib σ B) (h : P) : ix_cd σ ([B], []) P := ⟨fun _ => ⟨B, List.mem_cons_self, hB⟩, fun q => absurd h q⟩
theorem ix_cd.no {σ : ix_Sg} {B : ix_B} {P : Prop} (hB : ix_ib σ B) (h : ¬ P) : ix_cd σ ([], [B]) P := ⟨fun q => absurd q h, fun _ => ⟨B, List.mem_cons_self, hB⟩⟩
theorem ix_cd.both {σ : ix_Sg} {B : ix_B} {P : Prop} (hB : ix_ib σ B) : ix_cd σ ([B], [B]) P := ⟨fun _ => ⟨B, List.mem_cons_self, hB⟩, fun _ => ⟨B, List.mem_cons_self, hB⟩⟩
theorem ix_ltB_ok {σ : ix_Sg} {B : ix_B} (hB : ix_ib σ B) (x k : Nat) : ix_cd σ (ix_ltB B x k) (ix_bz (σ.1 x) < k) := by
  have hx := ix_box_ok hB x
  unfold ix_ltB
  revert hx
  generalize ix_box B x = q
  obtain ⟨lo, hi⟩ := q
  intro hx
  dsimp only at hx ⊢
  cases h1 : Nat.blt hi k with
  | true => exact ix_cd.yes hB (by have := ix_blt.mp h1; omega)
  | false =>
    cases h2 : Nat.ble k lo with
    | true => exact ix_cd.no hB (by have := ix_ble.mp h2; omega)
    | false =>
      refine ⟨fun h => ⟨_, List.mem_cons_self, hB.set hx.1 ?_⟩, fun h => ⟨_, List.mem_cons_self, hB.set (by omega) hx.2⟩⟩
      show _ ≤ k - 1
      omega
theorem ix_eqB_ok {σ : ix_Sg} {B : ix_B} (hB : ix_ib σ B) (x k : Nat) : ix_cd σ (ix_eqB B x k) (ix_bz (σ.1 x) = k) := by
  have hx := ix_box_ok hB x
  unfold ix_eqB
  revert hx
  generalize ix_box B x = q
  obtain ⟨lo, hi⟩ := q
  intro hx
  dsimp only at hx ⊢
  cases h1 : (Nat.blt hi k || Nat.blt k lo) with
  | true =>
    refine ix_cd.no hB ?_
    rcases Bool.or_eq_true _ _ ▸ h1 with h | h
    · have := ix_blt.mp h; omega
    · have := ix_blt.mp h; omega
  | false =>
    have h3 := Bool.or_eq_false_iff.mp h1
    have h4 := ix_blt_f.mp h3.1
    have h5 := ix_blt_f.mp h3.2
    cases h2 : Nat.beq lo hi with
    | true => exact ix_cd.yes hB (by have := ix_beq.mp h2; omega)
    | false =>
      refine ⟨fun h => ⟨_, List.mem_cons_self, hB.set (by omega) (by omega)⟩, fun h => ?_⟩
      by_cases h6 : ix_bz (σ.1 x) < k
      · refine ⟨B.set x (lo, Nat.pred k), List.mem_append.mpr (Or.inl ?_), hB.set hx.1 (by show _ ≤ k - 1; omega)⟩
        rw [ix_beq_f.mpr (by omega)]
        exact List.mem_cons_self
      · refine ⟨B.set x (Nat.succ k, hi), List.mem_append.mpr (Or.inr ?_), hB.set (by show k + 1 ≤ _; omega) hx.2⟩
        rw [ix_beq_f.mpr (by omega)]
        exact List.mem_cons_self
theorem ix_rv_int {σ : ix_Sg} {ad : Nat → Option Nat} {n : Nat} {z : Int32} (h : ix_rv σ ad (.inl n) (.int z)) : n < 4294967296 ∧ z = Int32.ofNat n := ⟨h.1, Value.int.inj h.2⟩
theorem ix_rv_sym {σ : ix_Sg} {ad : Nat → Option Nat} {x c : Nat} {z : Int32} (h : ix_rv σ ad (.inr (.inr (.inr (x, c)))) (.int z)) : c < 4294967296 ∧ (x = 0 ∨ z = σ.1 x + Int32.ofNat c) := by
  obtain ⟨h0, z', h1, h2⟩ := h
  cases h1
  exact ⟨h0, h2⟩
theorem ix_zero_add (z : Int32) : z + Int32.ofNat 0 = z := by
  show z + 0 = z
  simp
theorem ix_lt_ok {σ : ix_Sg} {ad : Nat → Option Nat} {B : ix_B} {a b : ix_V} {r : List ix_B × List ix_B} {za zb : Int32} (h : ix_lt B a b = some r) (hB : ix_ib σ B) (ha : ix_rv σ ad a (.int za)) (hb : ix_rv σ ad b (.int zb)) : ix_cd σ r (za < zb) := by
  match a, b, h, ha, hb with
  | .inl m, .inl n, h, ha, hb =>
    obtain ⟨m1, rfl⟩ := ix_rv_int ha
    obtain ⟨n1, rfl⟩ := ix_rv_int hb
    have h9 : cond (Nat.blt (ix_bias m) (ix_bias n)) ([B], []) ([], [B]) = r := Option.some.inj h
    subst h9
    rw [ix_lt_iff, ix_bz_ok m1, ix_bz_ok n1]
    cases hc : Nat.blt (ix_bias m) (ix_bias n) with
    | true => exact ix_cd.yes hB (ix_blt.mp hc)
    | false => exact ix_cd.no hB (ix_blt_f.mp hc)
  | .inr (.inr (.inr (x, c))), .inl n, h, ha, hb =>
    obtain ⟨c1, hz⟩ := ix_rv_sym ha
    obtain ⟨n1, rfl⟩ := ix_rv_int hb
    change cond (Nat.beq c 0 && (Nat.blt 0 x && Nat.blt x B.length)) _ _ = _ at h
    cases hc : (Nat.beq c 0 && (Nat.blt 0 x && Nat.blt x B.length)) with
    | false => rw [hc] at h; cases h; exact ix_cd.both hB
    | true =>
      rw [hc] at h
      have h9 : ix_ltB B x (ix_bias n) = r := Option.some.inj h
      subst h9
      have h1 := Bool.and_eq_true_iff.mp hc
      have h2 := Bool.and_eq_true_iff.mp h1.2
      have c0 := ix_beq.mp h1.1
      have x0 := ix_blt.mp h2.1
      subst c0
      rcases hz with hz | hz
      · omega
      · rw [ix_zero_add] at hz
        subst hz
        rw [ix_lt_iff, ix_bz_ok n1]
        exact ix_ltB_ok hB x _
  | .inl n, .inr (.inr (.inr (x, c))), h, ha, hb =>
    obtain ⟨c1, hz⟩ := ix_rv_sym hb
    obtain ⟨n1, rfl⟩ := ix_rv_int ha
    change cond (Nat.beq c 0 && (Nat.blt 0 x && Nat.blt x B.length)) _ _ = _ at h
    cases hc : (Nat.beq c 0 && (Nat.blt 0 x && Nat.blt x B.length)) with
    | false => rw [hc] at h; cases h; exact ix_cd.both hB
    | true =>
      rw [hc] at h
      have h1 := Bool.and_eq_true_iff.mp hc
      have h2 := Bool.and_eq_true_iff.mp h1.2
      have c0 := ix_beq.mp h1.1
      have x0 := ix_blt.mp h2.1
      subst c0
      rcases hz with hz | hz
      · omega
      · rw [ix_zero_add] at hz
        subst hz
        rw [ix_lt_iff, ix_bz_ok n1]
        have key := ix_ltB_ok hB x (Nat.succ (ix_bias n))
        revert h key
        generalize ix_ltB B x (Nat.succ (ix_bias n)) = q
        obtain ⟨y, z⟩ := q
        intro h key
        cases h
        exact ⟨fun g => key.2 (by show ¬ _ < ix_bias n + 1; omega), fun g => key.1 (by show _ < ix_bias n + 1; omega)⟩
  | .inr (.inr (.inr _)), .inr (.inr (.inr _)), h, ha, hb => cases h; exact ix_cd.both hB
  | .inr (.inl _), b, h, ha, hb => exact absurd ha.2 (by simp)
  | .inr (.inr (.inl _)), b, h, ha, hb => exact absurd ha (by rintro (⟨_, q⟩ | ⟨_, _, _, _, q⟩) <;> cases q)
  | .inl _, .inr (.inl _), h, ha, hb => exact absurd hb.2 (by simp)
  | .inl _, .inr (.inr (.inl _)), h, ha, hb => exact absurd hb (by rintro (⟨_, q⟩ | ⟨_, _, _, _, q⟩) <;> cases q)
  | .inr (.inr (.inr _)), .inr (.inl _), h, ha, hb => exact absurd hb.2 (by simp)
  | .inr (.inr (.inr _)), .inr (.inr (.inl _)), h, ha, hb => exact absurd hb (by rintro (⟨_, q⟩ | ⟨_, _, _, _, q⟩) <;> cases q)
theorem ix_sym_eq {z : Int32} {c n : Nat} (hc : c < 4294967296) (hn : n < 4294967296) : z + Int32.ofNat c = Int32.ofNat n ↔ ix_bz z = ix_bias (ix_sub n c) := by
  have e : Int32.ofNat (ix_sub n c) = Int32.ofNat n - Int32.ofNat c := ix_sub_ok hc
  constructor
  · intro h
    have : z = Int32.ofNat (ix_sub n c) := by rw [e, ← h]; simp
    rw [this, ix_bz_ok (ix_sub_lt n c)]
  · intro h
    have : z = Int32.ofNat (ix_sub n c) := ix_bz_inj (by rw [ix_bz_ok (ix_sub_lt n c)]; exact h)
    rw [this, e]
    simp
theorem ix_eq_ok {σ : ix_Sg} {ad : Nat → Option Nat} {B : ix_B} {a b : ix_V} {r : List ix_B × List ix_B} {za zb : Int32} (h : ix_eq B a b = some r) (hB : ix_ib σ B) (ha : ix_rv σ ad a (.int za)) (hb : ix_rv σ ad b (.int zb)) : ix_cd σ r (za = zb) := by
  match a, b, h, ha, hb with
  | .inl m, .inl n, h, ha, hb =>
    obtain ⟨m1, rfl⟩ := ix_rv_int ha
    obtain ⟨n1, rfl⟩ := ix_rv_int hb
    cases h
    cases hc : Nat.beq m n with
    | true => exact ix_cd.yes hB (by rw [ix_beq.mp hc])
    | false => exact ix_cd.no hB (fun q => ix_beq_f.mp hc (ix_inj m1 n1 q))
  | .inr (.inr (.inr (x, c))), .inl n, h, ha, hb =>
    obtain ⟨c1, hz⟩ := ix_rv_sym ha
    obtain ⟨n1, rfl⟩ := ix_rv_int hb
    change cond (Nat.blt 0 x && Nat.blt x B.length) _ _ = _ at h
    cases hc : (Nat.blt 0 x && Nat.blt x B.length) with
    | false => rw [hc] at h; cases h; exact ix_cd.both hB
    | true =>
      rw [hc] at h
      have h9 : ix_eqB B x (ix_bias (ix_sub n c)) = r := Option.some.inj h
      subst h9
      have x0 := ix_blt.mp (Bool.and_eq_true_iff.mp hc).1
      rcases hz with hz | hz
      · omega
      · subst hz
        rw [ix_sym_eq c1 n1]
        exact ix_eqB_ok hB x _
  | .inl n, .inr (.inr (.inr (x, c))), h, ha, hb =>
    obtain ⟨c1, hz⟩ := ix_rv_sym hb
    obtain ⟨n1, rfl⟩ := ix_rv_int ha
    change cond (Nat.blt 0 x && Nat.blt x B.length) _ _ = _ at h
    cases hc : (Nat.blt 0 x && Nat.blt x B.length) with
    | false => rw [hc] at h; cases h; exact ix_cd.both hB
    | true =>
      rw [hc] at h
      have h9 : ix_eqB B x (ix_bias (ix_sub n c)) = r := Option.some.inj h
      subst h9
      have x0 := ix_blt.mp (Bool.and_eq_true_iff.mp hc).1
      rcases hz with hz | hz
      · omega
      · subst hz
        have e : (Int32.ofNat n = σ.1 x + Int32.ofNat c) = (σ.1 x + Int32.ofNat c = Int32.ofNat n) := propext ⟨Eq.symm, Eq.symm⟩
        rw [e, ix_sym_eq c1 n1]
        exact ix_eqB_ok hB x _
  | .inr (.inr (.inr (x, c))), .inr (.inr (.inr (y, d))), h, ha, hb =>
    obtain ⟨c1, hz⟩ := ix_rv_sym ha
    obtain ⟨d1, hw⟩ := ix_rv_sym hb
    change cond (Nat.beq x y && (Nat.beq c d && Nat.blt 0 x)) _ _ = _ at h
    cases hc : (Nat.beq x y && (Nat.beq c d && Nat.blt 0 x)) with
    | false => rw [hc] at h; cases h; exact ix_cd.both hB
    | true =>
      rw [hc] at h
      cases h
      have h1 := Bool.and_eq_true_iff.mp hc
      have h2 := Bool.and_eq_true_iff.mp h1.2
      have e1 := ix_beq.mp h1.1
      have e2 := ix_beq.mp h2.1
      have x0 := ix_blt.mp h2.2
      subst e1; subst e2
      refine ix_cd.yes hB ?_
      rcases hz with hz | hz
      · omega
      · rcases hw with hw | hw
        · omega
        · rw [hz, hw]
  | .inr (.inl _), b, h, ha, hb => exact absurd ha.2 (by simp)
  | .inr (.inr (.inl _)), b, h, ha, hb => exact absurd ha (by rintro (⟨_, q⟩ | ⟨_, _, _, _, q⟩) <;> cases q)
  | .inl _, .inr (.inl _), h, ha, hb => exact absurd hb.2 (by simp)
  | .inl _, .inr (.inr (.inl _)), h, ha, hb => exact absurd hb (by rintro (⟨_, q⟩ | ⟨_, _, _, _, q⟩) <;> cases q)
  | .inr (.inr (.inr _)), .inr (.inl _), h, ha, hb => exact absurd hb.2 (by simp)
  | .inr (.inr (.inr _)), .inr (.inr (.inl _)), h, ha, hb => exact absurd hb (by rintro (⟨_, q⟩ | ⟨_, _, _, _, q⟩) <;> cases q)
