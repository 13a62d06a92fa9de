/-! the greatest number that divides both: it is not 0 -/
section TYGC
variable {h : ty_H}
theorem gc_rem (x y : Int32) (hy : y.toInt ≠ 0) : (x - x / y * y).toInt.natAbs < y.toInt.natAbs := by
  have e : (x - x / y * y).toInt = x.toInt.tmod y.toInt := by
    rw [Int32.toInt_sub, Int32.toInt_mul, Int32.toInt_div]
    have h1 : (x.toInt - (((x.toInt.tdiv y.toInt).bmod (2 ^ 32)) * y.toInt).bmod (2 ^ 32)).bmod (2 ^ 32) = (x.toInt.tmod y.toInt).bmod (2 ^ 32) := by
      rw [Int.bmod_mul_bmod, Int.sub_bmod_bmod, Int.tmod_def, Int.mul_comm]
    rw [h1]
    have a1 : (x.toInt.tmod y.toInt).natAbs < y.toInt.natAbs := by
      rw [Int.natAbs_tmod]
      exact Nat.mod_lt _ (by omega)
    have a2 := Int32.le_toInt y
    have a3 := Int32.toInt_lt y
    exact Int.bmod_eq_of_le (by omega) (by omega)
  rw [e, Int.natAbs_tmod]
  exact Nat.mod_lt _ (by omega)
theorem gc_ix {m n : Nat} (hm : m < 4294967296) (hn : n < 4294967296) (h0 : ¬ n = 0) : ix_rem m n < 4294967296 ∧ (Int32.ofNat (ix_rem m n)).toInt.natAbs < (Int32.ofNat n).toInt.natAbs := by
  have hy := ix_toInt hn
  unfold ix_rem
  cases hc : (Nat.blt m ix_h32 && Nat.blt n ix_h32) with
  | true =>
    rw [cond_true]
    have c := Bool.and_eq_true_iff.mp hc
    have c1 : m < 2147483648 := ix_blt.mp c.1
    have c2 : n < 2147483648 := ix_blt.mp c.2
    have hlt : m % n < n := Nat.mod_lt _ (by omega)
    have e : Nat.mod m n = m % n := rfl
    rw [e, ix_toInt (show m % n < 4294967296 by omega), hy, if_pos (by omega), if_pos c2]
    omega
  | false =>
    rw [cond_false]
    unfold ix_s2
    rw [ix_bk]
    refine ⟨BitVec.isLt _, gc_rem _ _ (fun z => h0 ?_)⟩
    rw [hy] at z
    split at z <;> omega
theorem pl_irem {p nx a b c : Nat} {ls : ix_L} {st : List ix_V} {w : Nat × (ix_T × (Nat × Nat))} (h0 : ¬ b = 0) (e : ix_rem a b = c) : ix_idiv ix_rem p nx ([], ls, .inl b :: .inl a :: st, w) = some [(nx, ([], ls, .inl c :: st, w))] := by
  show cond (Nat.beq b 0) none (some [(nx, (([] : ix_B), ls, (.inl (ix_rem a b) : ix_V) :: st, w))]) = _
  rw [ix_beq_f.mpr h0, e]
  rfl

theorem pl_gc_b {M : ix_M} {O : ix_O} {d n ce sl a b x y : Nat} {r : Option ix_V} {t : ix_T} {z : Nat} (h0 : ¬ y = 0) (e : ix_rem x y = z) : ty_rt M d (ix_cX12_common O) 4 ([some (.inl a), some (.inl b), some (.inl x), some (.inl y), r], [], n, t, ce, sl) 4 ([some (.inl a), some (.inl b), some (.inl y), some (.inl z), some (.inl z)], [], n, t, ce, sl) := by
  have s0 : ty_rt M d (ix_cX12_common O) 4 ([some (.inl a), some (.inl b), some (.inl x), some (.inl y), r], [], n, t, ce, sl) 5 ([some (.inl a), some (.inl b), some (.inl x), some (.inl y), r], [.inl y], n, t, ce, sl) := pl_go (by decide) (fun _ => pl_T rfl (pl_F rfl (pl_T rfl (pl_T rfl (pl_T rfl (rfl))))))
  have s1 : ty_rt M d (ix_cX12_common O) 5 ([some (.inl a), some (.inl b), some (.inl x), some (.inl y), r], [.inl y], n, t, ce, sl) 8 ([some (.inl a), some (.inl b), some (.inl x), some (.inl y), r], [], n, t, ce, sl) := pl_go (by decide) (fun _ => pl_T rfl (pl_F rfl (pl_T rfl (pl_F rfl (pl_T rfl (pl_z_n (neg := false) (swap := false) (tgt := 21) (nx := 8) h0))))))
  have s2 : ty_rt M d (ix_cX12_common O) 8 ([some (.inl a), some (.inl b), some (.inl x), some (.inl y), r], [], n, t, ce, sl) 9 ([some (.inl a), some (.inl b), some (.inl x), some (.inl y), r], [.inl x], n, t, ce, sl) := pl_go (by decide) (fun _ => pl_T rfl (pl_F rfl (pl_F rfl (pl_T rfl (pl_T rfl (rfl))))))
  have s3 : ty_rt M d (ix_cX12_common O) 9 ([some (.inl a), some (.inl b), some (.inl x), some (.inl y), r], [.inl x], n, t, ce, sl) 10 ([some (.inl a), some (.inl b), some (.inl x), some (.inl y), r], [.inl y, .inl x], n, t, ce, sl) := pl_go (by decide) (fun _ => pl_T rfl (pl_F rfl (pl_F rfl (pl_F rfl (pl_T rfl (rfl))))))
  have s4 : ty_rt M d (ix_cX12_common O) 10 ([some (.inl a), some (.inl b), some (.inl x), some (.inl y), r], [.inl y, .inl x], n, t, ce, sl) 11 ([some (.inl a), some (.inl b), some (.inl x), some (.inl y), r], [.inl z], n, t, ce, sl) := pl_go (by decide) (fun _ => pl_F rfl (pl_T rfl (pl_T rfl (pl_T rfl (pl_T rfl (pl_irem h0 e))))))
  have s5 : ty_rt M d (ix_cX12_common O) 11 ([some (.inl a), some (.inl b), some (.inl x), some (.inl y), r], [.inl z], n, t, ce, sl) 13 ([some (.inl a), some (.inl b), some (.inl x), some (.inl y), some (.inl z)], [], n, t, ce, sl) := pl_go (by decide) (fun _ => pl_F rfl (pl_T rfl (pl_T rfl (pl_F rfl (pl_T rfl (rfl))))))
  have s6 : ty_rt M d (ix_cX12_common O) 13 ([some (.inl a), some (.inl b), some (.inl x), some (.inl y), some (.inl z)], [], n, t, ce, sl) 14 ([some (.inl a), some (.inl b), some (.inl x), some (.inl y), some (.inl z)], [.inl y], n, t, ce, sl) := pl_go (by decide) (fun _ => pl_F rfl (pl_T rfl (pl_F rfl (pl_T rfl (pl_T rfl (rfl))))))
  have s7 : ty_rt M d (ix_cX12_common O) 14 ([some (.inl a), some (.inl b), some (.inl x), some (.inl y), some (.inl z)], [.inl y], n, t, ce, sl) 15 ([some (.inl a), some (.inl b), some (.inl y), some (.inl y), some (.inl z)], [], n, t, ce, sl) := pl_go (by decide) (fun _ => pl_F rfl (pl_T rfl (pl_F rfl (pl_F rfl (pl_T rfl (rfl))))))
  have s8 : ty_rt M d (ix_cX12_common O) 15 ([some (.inl a), some (.inl b), some (.inl y), some (.inl y), some (.inl z)], [], n, t, ce, sl) 17 ([some (.inl a), some (.inl b), some (.inl y), some (.inl y), some (.inl z)], [.inl z], n, t, ce, sl) := pl_go (by decide) (fun _ => pl_F rfl (pl_F rfl (pl_T rfl (pl_T rfl (pl_T rfl (rfl))))))
  have s9 : ty_rt M d (ix_cX12_common O) 17 ([some (.inl a), some (.inl b), some (.inl y), some (.inl y), some (.inl z)], [.inl z], n, t, ce, sl) 18 ([some (.inl a), some (.inl b), some (.inl y), some (.inl z), some (.inl z)], [], n, t, ce, sl) := pl_go (by decide) (fun _ => pl_F rfl (pl_F rfl (pl_T rfl (pl_F rfl (pl_T rfl (rfl))))))
  have s10 : ty_rt M d (ix_cX12_common O) 18 ([some (.inl a), some (.inl b), some (.inl y), some (.inl z), some (.inl z)], [], n, t, ce, sl) 4 ([some (.inl a), some (.inl b), some (.inl y), some (.inl z), some (.inl z)], [], n, t, ce, sl) := pl_go (by decide) (fun _ => pl_F rfl (pl_F rfl (pl_F rfl (pl_T rfl (pl_T rfl (rfl))))))
  exact s0.tr (s1.tr (s2.tr (s3.tr (s4.tr (s5.tr (s6.tr (s7.tr (s8.tr (s9.tr (s10))))))))))
theorem pl_gc_e {M : ix_M} {O : ix_O} {d n ce sl a b x : Nat} {r : Option ix_V} {t : ix_T} : ty_rt M d (ix_cX12_common O) 4 ([some (.inl a), some (.inl b), some (.inl x), some (.inl 0), r], [], n, t, ce, sl) 99999 ([], [.inl x], n, t, ce, sl) := by
  have s0 : ty_rt M d (ix_cX12_common O) 4 ([some (.inl a), some (.inl b), some (.inl x), some (.inl 0), r], [], n, t, ce, sl) 5 ([some (.inl a), some (.inl b), some (.inl x), some (.inl 0), r], [.inl 0], n, t, ce, sl) := pl_go (by decide) (fun _ => pl_T rfl (pl_F rfl (pl_T rfl (pl_T rfl (pl_T rfl (rfl))))))
  have s1 : ty_rt M d (ix_cX12_common O) 5 ([some (.inl a), some (.inl b), some (.inl x), some (.inl 0), r], [.inl 0], n, t, ce, sl) 21 ([some (.inl a), some (.inl b), some (.inl x), some (.inl 0), r], [], n, t, ce, sl) := pl_go (by decide) (fun _ => pl_T rfl (pl_F rfl (pl_T rfl (pl_F rfl (pl_T rfl (pl_z_y (neg := false) (swap := false) (tgt := 21) (nx := 8) rfl))))))
  have s2 : ty_rt M d (ix_cX12_common O) 21 ([some (.inl a), some (.inl b), some (.inl x), some (.inl 0), r], [], n, t, ce, sl) 22 ([some (.inl a), some (.inl b), some (.inl x), some (.inl 0), r], [.inl x], n, t, ce, sl) := pl_go (by decide) (fun _ => pl_F rfl (pl_F rfl (pl_F rfl (pl_F rfl (pl_T rfl (pl_T rfl (rfl)))))))
  have z : ty_rt M d (ix_cX12_common O) 22 ([some (.inl a), some (.inl b), some (.inl x), some (.inl 0), r], [.inl x], n, t, ce, sl) 99999 ([], [.inl x], n, t, ce, sl) := pl_go (by decide) (fun _ => pl_F rfl (pl_F rfl (pl_F rfl (pl_F rfl (pl_F rfl (pl_T rfl (rfl)))))))
  refine ty_rt.tr ?_ z
  exact s0.tr (s1.tr (s2))
theorem pl_gc_0 {M : ix_M} {O : ix_O} {d n ce sl a b : Nat} {r : Option ix_V} {t : ix_T} {p q : Option ix_V} : ty_rt M d (ix_cX12_common O) 0 ([some (.inl a), some (.inl b), p, q, r], [], n, t, ce, sl) 4 ([some (.inl a), some (.inl b), some (.inl a), some (.inl b), r], [], n, t, ce, sl) := by
  have s0 : ty_rt M d (ix_cX12_common O) 0 ([some (.inl a), some (.inl b), p, q, r], [], n, t, ce, sl) 1 ([some (.inl a), some (.inl b), p, q, r], [.inl a], n, t, ce, sl) := pl_go (by decide) (fun _ => pl_T rfl (pl_T rfl (pl_T rfl (pl_T rfl (pl_T rfl (rfl))))))
  have s1 : ty_rt M d (ix_cX12_common O) 1 ([some (.inl a), some (.inl b), p, q, r], [.inl a], n, t, ce, sl) 2 ([some (.inl a), some (.inl b), some (.inl a), q, r], [], n, t, ce, sl) := pl_go (by decide) (fun _ => pl_T rfl (pl_T rfl (pl_T rfl (pl_F rfl (pl_T rfl (rfl))))))
  have s2 : ty_rt M d (ix_cX12_common O) 2 ([some (.inl a), some (.inl b), some (.inl a), q, r], [], n, t, ce, sl) 3 ([some (.inl a), some (.inl b), some (.inl a), q, r], [.inl b], n, t, ce, sl) := pl_go (by decide) (fun _ => pl_T rfl (pl_T rfl (pl_F rfl (pl_T rfl (pl_T rfl (rfl))))))
  have s3 : ty_rt M d (ix_cX12_common O) 3 ([some (.inl a), some (.inl b), some (.inl a), q, r], [.inl b], n, t, ce, sl) 4 ([some (.inl a), some (.inl b), some (.inl a), some (.inl b), r], [], n, t, ce, sl) := pl_go (by decide) (fun _ => pl_T rfl (pl_T rfl (pl_F rfl (pl_F rfl (pl_T rfl (rfl))))))
  exact s0.tr (s1.tr (s2.tr (s3)))
theorem pl_gc_l {M : ix_M} {O : ix_O} {d n ce sl a b : Nat} {t : ix_T} : ∀ (N x y : Nat) (r : Option ix_V), x < 4294967296 → y < 4294967296 → ¬ x = 0 → (Int32.ofNat y).toInt.natAbs < N → ∃ x', x' < 4294967296 ∧ ¬ x' = 0 ∧ ty_rt M d (ix_cX12_common O) 4 ([some (.inl a), some (.inl b), some (.inl x), some (.inl y), r], [], n, t, ce, sl) 99999 ([], [.inl x'], n, t, ce, sl)
  | 0, _, _, _, _, _, _, h => absurd h (Nat.not_lt_zero _)
  | N + 1, x, y, r, hx, hy, h0, h => by
    by_cases q : y = 0
    · subst q
      exact ⟨x, hx, h0, pl_gc_e⟩
    · obtain ⟨g1, g2⟩ := gc_ix hx hy q
      obtain ⟨x', a1, a2, a3⟩ := pl_gc_l (M := M) (O := O) (d := d) (n := n) (ce := ce) (sl := sl) (a := a) (b := b) (t := t) N y (ix_rem x y) (some (.inl (ix_rem x y))) hy g1 q (by omega)
      exact ⟨x', a1, a2, (pl_gc_b q rfl).tr a3⟩
noncomputable def ty_gcK : ty_KT := ([(0, 4294967297, 4294968295, 0), (0, 2147483648, 6442450943, 0)], [], [([(0, 2147483648, 4294967295, 0)], [], [], []), ([(0, 4294967297, 6442450943, 0)], [], [], [])])
theorem ty_gcK_ok {M : ix_M} {O : ix_O} {cap : Nat → Nat} {d y : Nat} (hM : M y = some (ix_cX12_common O, 5)) : ty_KS h M cap (d + 1) y ty_gcK := by
  intro σ avs n t hh has hse hn
  rcases avs with _ | ⟨w0, _ | ⟨w1, _ | ⟨w2, r⟩⟩⟩
  · exact has.elim
  · exact has.2.elim
  · have z0 : ∃ m, w0 = .inl m ∧ m < 4294967296 ∧ 4294967297 ≤ ty_kp m ∧ ty_kp m ≤ 4294968295 ∧ ((0 : Nat) = 0 ∨ ty_lab σ.2.1 (0 - 1) t m) := has.1
    have z1 : ∃ m, w1 = .inl m ∧ m < 4294967296 ∧ 2147483648 ≤ ty_kp m ∧ ty_kp m ≤ 6442450943 ∧ ((0 : Nat) = 0 ∨ ty_lab σ.2.1 (0 - 1) t m) := has.2.1
    obtain ⟨a, rfl, a1, a2, a3, _⟩ := z0
    obtain ⟨b, rfl, b1, _⟩ := z1
    obtain ⟨u1, u2⟩ := ty_nn a1 (by omega)
    obtain ⟨x', c1, c2, c3⟩ := pl_gc_l (M := M) (O := O) (d := d) (n := n) (ce := 0) (sl := 0) (a := a) (b := b) (t := t) ((Int32.ofNat b).toInt.natAbs + 1) a b none a1 b1 (by omega) (by omega)
    have hev : ty_ev M (d + 1) y [.inl a, .inl b] n t ([], [.inl x'], n, t, 0, 0) := pl_call (avs := [.inl a, .inl b]) hM (show 2 ≤ 5 by decide) (pl_gc_0.tr c3)
    have k1 := ty_kp_lo x'
    have k2 := ty_kp_hi x'
    have k3 : ¬ ty_kp x' = 4294967296 := fun e => c2 (by
      have := ty_kp_mod c1
      rw [e] at this
      exact this.symm)
    have any : ∀ lo hi, lo ≤ ty_kp x' → ty_kp x' ≤ hi → ty_asms σ.2.1 σ.2.2.2 n t [(0, lo, hi, 0)] [.inl x'] := fun lo hi g1 g2 => ⟨⟨x', rfl, c1, g1, g2, Or.inl rfl⟩, trivial⟩
    by_cases q : ty_kp x' < 4294967296
    · exact ⟨_, List.mem_cons_self, σ, ([], [.inl x'], n, t, 0, 0), ty_ag.rf, fun _ _ => rfl, hh, any _ _ k1 (by omega), (fun e he => absurd he List.not_mem_nil), (fun r hr => absurd hr List.not_mem_nil), (fun i hi => absurd hi List.not_mem_nil), Nat.le_add_right _ _, hev⟩
    · exact ⟨_, List.mem_cons_of_mem _ List.mem_cons_self, σ, ([], [.inl x'], n, t, 0, 0), ty_ag.rf, fun _ _ => rfl, hh, any _ _ (by omega) (by omega), (fun e he => absurd he List.not_mem_nil), (fun r hr => absurd hr List.not_mem_nil), (fun i hi => absurd hi List.not_mem_nil), Nat.le_add_right _ _, hev⟩
  · exact has.2.2.elim
end TYGC
