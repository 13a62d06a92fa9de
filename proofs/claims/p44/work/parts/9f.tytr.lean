/-! trees of rows -/
section TYTR
variable {h : ty_H} {cp : Nat × Nat} {pc : Nat}
noncomputable def ty_no1 : ty_S → ty_R := fun _ => none
theorem ty_b {b : Bool} {f f' : Nat → ix_S → ix_R} {a a' : ty_S → ty_R} (h1 : ty_sd h cp pc f a) (h2 : ty_sd h cp pc f' a') : ty_sd h cp pc (fun g => cond b (f g) (f' g)) (cond b a a') := by
  cases b
  · exact h2
  · exact h1
theorem ty_sd_no {f : Nat → ix_S → ix_R} : ty_sd h cp pc f ty_no1 := fun S outs hs => by cases hs
theorem ty_l {k : Nat} {f : Nat → ix_S → ix_R} {a : ty_S → ty_R} (hh : ty_sd h cp k f a) : ty_sd h cp pc (fun g => cond (Nat.beq pc k) (f g) ix_no) (cond (Nat.beq pc k) a ty_no1) := by
  cases hb : Nat.beq pc k with
  | false => exact ty_sd_no
  | true =>
    have e : pc = k := ix_beq.mp hb
    subst e
    exact hh
theorem ty_vI (n b : Nat) (hn : n < 4294967296) (hb : b = ty_kp n) : ∀ k σ, ty_rv k σ (.inl b) (ix_vI n) := fun k σ => ⟨n, rfl, hn, hb⟩
theorem ty_vJ (m : Nat) (hm : m < 18446744073709551616) : ∀ k σ, ty_rv k σ (.inr (.inl (m + 1))) (ix_vL m) := fun k σ => ⟨m, rfl, hm, Or.inr (Or.inl rfl)⟩
end TYTR
