/-! a look from a cell: it ends -/
section TYLF
variable {h : ty_H}
theorem pl_gt_y {tgt nx a : Nat} {ls : ix_L} {st : List ix_V} {w : Nat × (ix_T × (Nat × Nat))} (ha : a < 2147483648) (h : 0 < a) : ix_if true true true tgt nx ([], ls, .inl a :: st, w) = some [(nx, ([], ls, st, w))] := by
  show ix_br (some (cond (Nat.blt (ix_bias 0) (ix_bias a)) ([([] : ix_B)], []) ([], [[]]))) nx tgt (ls, st, w) = _
  rw [pl_bias ha, pl_bias (show 0 < 2147483648 by decide), ix_blt.mpr (show 0 + 2147483648 < a + 2147483648 by omega)]
  rfl
theorem pl_gt_n {tgt nx : Nat} {ls : ix_L} {st : List ix_V} {w : Nat × (ix_T × (Nat × Nat))} : ix_if true true true tgt nx ([], ls, .inl 0 :: st, w) = some [(tgt, ([], ls, st, w))] := by
  show ix_br (some (cond (Nat.blt (ix_bias 0) (ix_bias 0)) ([([] : ix_B)], []) ([], [[]]))) nx tgt (ls, st, w) = _
  rw [ix_blt_f.mpr (Nat.lt_irrefl _)]
  rfl
theorem pl_dec {q : Nat} (hq : q < 2147483647) : ix_add (q + 1) 4294967295 = q := by
  have e : ix_add (q + 1) 4294967295 = (q + 1 + 4294967295) % 4294967296 := rfl
  rw [e]
  omega

theorem pl_lf1 {M : ix_M} {O : ix_O} {d n f : Nat} {t : ix_T} {x2 x3 : Option ix_V}   : ty_rt M d (ix_cX12_looksFrom O) 4 ([some (.inr (.inr (.inl 80))), some (.inl f), x2, x3], [], n, t, 0, 0) 6 ([some (.inr (.inr (.inl 80))), some (.inl f), some (.inl 0), x3], [], n, t, 0, 0) := by
  have s0 : ty_rt M d (ix_cX12_looksFrom O) 4 ([some (.inr (.inr (.inl 80))), some (.inl f), x2, x3], [], n, t, 0, 0) 5 ([some (.inr (.inr (.inl 80))), some (.inl f), x2, x3], [.inl 0], n, t, 0, 0) := pl_go (by decide) (fun _ => pl_T rfl (pl_T rfl (pl_T rfl (pl_T rfl (pl_F rfl (pl_F rfl (pl_T rfl (rfl))))))))
  have s1 : ty_rt M d (ix_cX12_looksFrom O) 5 ([some (.inr (.inr (.inl 80))), some (.inl f), x2, x3], [.inl 0], n, t, 0, 0) 6 ([some (.inr (.inr (.inl 80))), some (.inl f), some (.inl 0), x3], [], n, t, 0, 0) := pl_go (by decide) (fun _ => pl_T rfl (pl_T rfl (pl_T rfl (pl_F rfl (pl_T rfl (pl_T rfl (rfl)))))))
  exact s0.tr (s1)
theorem pl_lf2 {M : ix_M} {O : ix_O} {d n mo f : Nat} {t : ix_T} {i : Nat} {x3 : Option ix_V} (H : pl_gf n mo t) (hi : i < 64) : ty_rt M d (ix_cX12_looksFrom O) 6 ([some (.inr (.inr (.inl 80))), some (.inl f), some (.inl i), x3], [], n, t, 0, 0) 6 ([some (.inr (.inr (.inl 80))), some (.inl f), some (.inl (i + 1)), x3], [], n, (pl_set 97 i (.inl 4294967295) t), 0, 0) := by
  obtain ⟨h1, h2, h3, h4, h5, h6, h7, h8, h9, hm, h10, h11, h12, h13⟩ := H.1
  obtain ⟨_, j1, j2, j3, j4, j5, j6, j7, j8, j9, j10⟩ := H
  have s0 : ty_rt M d (ix_cX12_looksFrom O) 6 ([some (.inr (.inr (.inl 80))), some (.inl f), some (.inl i), x3], [], n, t, 0, 0) 7 ([some (.inr (.inr (.inl 80))), some (.inl f), some (.inl i), x3], [.inl i], n, t, 0, 0) := pl_go (by decide) (fun _ => pl_T rfl (pl_T rfl (pl_T rfl (pl_F rfl (pl_F rfl (pl_T rfl (pl_T rfl (rfl))))))))
  have s1 : ty_rt M d (ix_cX12_looksFrom O) 7 ([some (.inr (.inr (.inl 80))), some (.inl f), some (.inl i), x3], [.inl i], n, t, 0, 0) 9 ([some (.inr (.inr (.inl 80))), some (.inl f), some (.inl i), x3], [.inl 64, .inl i], n, t, 0, 0) := pl_go (by decide) (fun _ => pl_T rfl (pl_T rfl (pl_T rfl (pl_F rfl (pl_F rfl (pl_F rfl (pl_T rfl (rfl))))))))
  have s2 : ty_rt M d (ix_cX12_looksFrom O) 9 ([some (.inr (.inr (.inl 80))), some (.inl f), some (.inl i), x3], [.inl 64, .inl i], n, t, 0, 0) 12 ([some (.inr (.inr (.inl 80))), some (.inl f), some (.inl i), x3], [], n, t, 0, 0) := pl_go (by decide) (fun _ => pl_T rfl (pl_T rfl (pl_F rfl (pl_T rfl (pl_T rfl (pl_T rfl (pl_ge_n (neg := true) (tgt := 25) (nx := 12) (by omega) (by decide) hi)))))))
  have s3 : ty_rt M d (ix_cX12_looksFrom O) 12 ([some (.inr (.inr (.inl 80))), some (.inl f), some (.inl i), x3], [], n, t, 0, 0) 13 ([some (.inr (.inr (.inl 80))), some (.inl f), some (.inl i), x3], [.inr (.inr (.inl 80))], n, t, 0, 0) := pl_go (by decide) (fun _ => pl_T rfl (pl_T rfl (pl_F rfl (pl_T rfl (pl_F rfl (pl_T rfl (pl_T rfl (rfl))))))))
  have s4 : ty_rt M d (ix_cX12_looksFrom O) 13 ([some (.inr (.inr (.inl 80))), some (.inl f), some (.inl i), x3], [.inr (.inr (.inl 80))], n, t, 0, 0) 16 ([some (.inr (.inr (.inl 80))), some (.inl f), some (.inl i), x3], [.inr (.inr (.inl 98))], n, t, 0, 0) := pl_go (by decide) (fun _ => pl_T rfl (pl_T rfl (pl_F rfl (pl_T rfl (pl_F rfl (pl_F rfl (pl_T rfl (pl_getf h1 h2 (by omega) j2))))))))
  have s5 : ty_rt M d (ix_cX12_looksFrom O) 16 ([some (.inr (.inr (.inl 80))), some (.inl f), some (.inl i), x3], [.inr (.inr (.inl 98))], n, t, 0, 0) 17 ([some (.inr (.inr (.inl 80))), some (.inl f), some (.inl i), x3], [.inl i, .inr (.inr (.inl 98))], n, t, 0, 0) := pl_go (by decide) (fun _ => pl_T rfl (pl_T rfl (pl_F rfl (pl_F rfl (pl_T rfl (pl_T rfl (pl_T rfl (rfl))))))))
  have s6 : ty_rt M d (ix_cX12_looksFrom O) 17 ([some (.inr (.inr (.inl 80))), some (.inl f), some (.inl i), x3], [.inl i, .inr (.inr (.inl 98))], n, t, 0, 0) 18 ([some (.inr (.inr (.inl 80))), some (.inl f), some (.inl i), x3], [.inl 4294967295, .inl i, .inr (.inr (.inl 98))], n, t, 0, 0) := pl_go (by decide) (fun _ => pl_T rfl (pl_T rfl (pl_F rfl (pl_F rfl (pl_T rfl (pl_F rfl (pl_T rfl (rfl))))))))
  have s7 : ty_rt M d (ix_cX12_looksFrom O) 18 ([some (.inr (.inr (.inl 80))), some (.inl f), some (.inl i), x3], [.inl 4294967295, .inl i, .inr (.inr (.inl 98))], n, t, 0, 0) 19 ([some (.inr (.inr (.inl 80))), some (.inl f), some (.inl i), x3], [], n, (pl_set 97 i (.inl 4294967295) t), 0, 0) := pl_go (by decide) (fun _ => pl_T rfl (pl_T rfl (pl_F rfl (pl_F rfl (pl_F rfl (pl_T rfl (pl_T rfl (pl_iast j5 j6 (by omega)))))))))
  have s8 : ty_rt M d (ix_cX12_looksFrom O) 19 ([some (.inr (.inr (.inl 80))), some (.inl f), some (.inl i), x3], [], n, (pl_set 97 i (.inl 4294967295) t), 0, 0) 22 ([some (.inr (.inr (.inl 80))), some (.inl f), some (.inl (i + 1)), x3], [], n, (pl_set 97 i (.inl 4294967295) t), 0, 0) := pl_go (by decide) (fun _ => pl_T rfl (pl_T rfl (pl_F rfl (pl_F rfl (pl_F rfl (pl_F rfl (pl_T rfl (pl_iinc rfl rfl (pl_add (by omega))))))))))
  have s9 : ty_rt M d (ix_cX12_looksFrom O) 22 ([some (.inr (.inr (.inl 80))), some (.inl f), some (.inl (i + 1)), x3], [], n, (pl_set 97 i (.inl 4294967295) t), 0, 0) 6 ([some (.inr (.inr (.inl 80))), some (.inl f), some (.inl (i + 1)), x3], [], n, (pl_set 97 i (.inl 4294967295) t), 0, 0) := pl_go (by decide) (fun _ => pl_T rfl (pl_F rfl (pl_T rfl (pl_T rfl (pl_T rfl (pl_T rfl (rfl)))))))
  exact s0.tr (s1.tr (s2.tr (s3.tr (s4.tr (s5.tr (s6.tr (s7.tr (s8.tr (s9)))))))))
theorem pl_lf3 {M : ix_M} {O : ix_O} {d n f : Nat} {t : ix_T} {x3 : Option ix_V}   : ty_rt M d (ix_cX12_looksFrom O) 6 ([some (.inr (.inr (.inl 80))), some (.inl f), some (.inl 64), x3], [], n, t, 0, 0) 27 ([some (.inr (.inr (.inl 80))), some (.inl f), some (.inl 0), x3], [], n, t, 0, 0) := by
  have s0 : ty_rt M d (ix_cX12_looksFrom O) 6 ([some (.inr (.inr (.inl 80))), some (.inl f), some (.inl 64), x3], [], n, t, 0, 0) 7 ([some (.inr (.inr (.inl 80))), some (.inl f), some (.inl 64), x3], [.inl 64], n, t, 0, 0) := pl_go (by decide) (fun _ => pl_T rfl (pl_T rfl (pl_T rfl (pl_F rfl (pl_F rfl (pl_T rfl (pl_T rfl (rfl))))))))
  have s1 : ty_rt M d (ix_cX12_looksFrom O) 7 ([some (.inr (.inr (.inl 80))), some (.inl f), some (.inl 64), x3], [.inl 64], n, t, 0, 0) 9 ([some (.inr (.inr (.inl 80))), some (.inl f), some (.inl 64), x3], [.inl 64, .inl 64], n, t, 0, 0) := pl_go (by decide) (fun _ => pl_T rfl (pl_T rfl (pl_T rfl (pl_F rfl (pl_F rfl (pl_F rfl (pl_T rfl (rfl))))))))
  have s2 : ty_rt M d (ix_cX12_looksFrom O) 9 ([some (.inr (.inr (.inl 80))), some (.inl f), some (.inl 64), x3], [.inl 64, .inl 64], n, t, 0, 0) 25 ([some (.inr (.inr (.inl 80))), some (.inl f), some (.inl 64), x3], [], n, t, 0, 0) := pl_go (by decide) (fun _ => pl_T rfl (pl_T rfl (pl_F rfl (pl_T rfl (pl_T rfl (pl_T rfl (pl_ge_y (neg := true) (tgt := 25) (nx := 12) (by decide) (by decide) (Nat.le_refl _))))))))
  have s3 : ty_rt M d (ix_cX12_looksFrom O) 25 ([some (.inr (.inr (.inl 80))), some (.inl f), some (.inl 64), x3], [], n, t, 0, 0) 26 ([some (.inr (.inr (.inl 80))), some (.inl f), some (.inl 64), x3], [.inl 0], n, t, 0, 0) := pl_go (by decide) (fun _ => pl_T rfl (pl_F rfl (pl_T rfl (pl_T rfl (pl_F rfl (pl_T rfl (pl_T rfl (rfl))))))))
  have s4 : ty_rt M d (ix_cX12_looksFrom O) 26 ([some (.inr (.inr (.inl 80))), some (.inl f), some (.inl 64), x3], [.inl 0], n, t, 0, 0) 27 ([some (.inr (.inr (.inl 80))), some (.inl f), some (.inl 0), x3], [], n, t, 0, 0) := pl_go (by decide) (fun _ => pl_T rfl (pl_F rfl (pl_T rfl (pl_T rfl (pl_F rfl (pl_F rfl (pl_T rfl (rfl))))))))
  exact s0.tr (s1.tr (s2.tr (s3.tr (s4))))
theorem pl_lf4 {M : ix_M} {O : ix_O} {d n mo f : Nat} {t : ix_T} {a : Nat} {x3 : Option ix_V} (H : pl_gf n mo t) (ha : a < 4) : ty_rt M d (ix_cX12_looksFrom O) 27 ([some (.inr (.inr (.inl 80))), some (.inl f), some (.inl a), x3], [], n, t, 0, 0) 55 ([some (.inr (.inr (.inl 80))), some (.inl f), some (.inl a), some (.inl 1)], [], n, (pl_set 98 2 (.inl 1) (pl_set 98 1 (.inl a) (pl_set 98 0 (.inl f) t))), 0, 0) := by
  obtain ⟨h1, h2, h3, h4, h5, h6, h7, h8, h9, hm, h10, h11, h12, h13⟩ := H.1
  obtain ⟨_, j1, j2, j3, j4, j5, j6, j7, j8, j9, j10⟩ := H
  have s0 : ty_rt M d (ix_cX12_looksFrom O) 27 ([some (.inr (.inr (.inl 80))), some (.inl f), some (.inl a), x3], [], n, t, 0, 0) 28 ([some (.inr (.inr (.inl 80))), some (.inl f), some (.inl a), x3], [.inl a], n, t, 0, 0) := pl_go (by decide) (fun _ => pl_T rfl (pl_F rfl (pl_T rfl (pl_F rfl (pl_T rfl (pl_T rfl (rfl)))))))
  have s1 : ty_rt M d (ix_cX12_looksFrom O) 28 ([some (.inr (.inr (.inl 80))), some (.inl f), some (.inl a), x3], [.inl a], n, t, 0, 0) 29 ([some (.inr (.inr (.inl 80))), some (.inl f), some (.inl a), x3], [.inl 4, .inl a], n, t, 0, 0) := pl_go (by decide) (fun _ => pl_T rfl (pl_F rfl (pl_T rfl (pl_F rfl (pl_F rfl (pl_T rfl (pl_T rfl (rfl))))))))
  have s2 : ty_rt M d (ix_cX12_looksFrom O) 29 ([some (.inr (.inr (.inl 80))), some (.inl f), some (.inl a), x3], [.inl 4, .inl a], n, t, 0, 0) 32 ([some (.inr (.inr (.inl 80))), some (.inl f), some (.inl a), x3], [], n, t, 0, 0) := pl_go (by decide) (fun _ => pl_T rfl (pl_F rfl (pl_T rfl (pl_F rfl (pl_F rfl (pl_F rfl (pl_T rfl (pl_ge_n (neg := true) (tgt := 77) (nx := 32) (by omega) (by decide) ha))))))))
  have s3 : ty_rt M d (ix_cX12_looksFrom O) 32 ([some (.inr (.inr (.inl 80))), some (.inl f), some (.inl a), x3], [], n, t, 0, 0) 33 ([some (.inr (.inr (.inl 80))), some (.inl f), some (.inl a), x3], [.inl 1], n, t, 0, 0) := pl_go (by decide) (fun _ => pl_T rfl (pl_F rfl (pl_F rfl (pl_T rfl (pl_T rfl (pl_T rfl (rfl)))))))
  have s4 : ty_rt M d (ix_cX12_looksFrom O) 33 ([some (.inr (.inr (.inl 80))), some (.inl f), some (.inl a), x3], [.inl 1], n, t, 0, 0) 34 ([some (.inr (.inr (.inl 80))), some (.inl f), some (.inl a), some (.inl 1)], [], n, t, 0, 0) := pl_go (by decide) (fun _ => pl_T rfl (pl_F rfl (pl_F rfl (pl_T rfl (pl_F rfl (pl_T rfl (pl_T rfl (rfl))))))))
  have s5 : ty_rt M d (ix_cX12_looksFrom O) 34 ([some (.inr (.inr (.inl 80))), some (.inl f), some (.inl a), some (.inl 1)], [], n, t, 0, 0) 35 ([some (.inr (.inr (.inl 80))), some (.inl f), some (.inl a), some (.inl 1)], [.inr (.inr (.inl 80))], n, t, 0, 0) := pl_go (by decide) (fun _ => pl_T rfl (pl_F rfl (pl_F rfl (pl_T rfl (pl_F rfl (pl_F rfl (pl_T rfl (rfl))))))))
  have s6 : ty_rt M d (ix_cX12_looksFrom O) 35 ([some (.inr (.inr (.inl 80))), some (.inl f), some (.inl a), some (.inl 1)], [.inr (.inr (.inl 80))], n, t, 0, 0) 38 ([some (.inr (.inr (.inl 80))), some (.inl f), some (.inl a), some (.inl 1)], [.inr (.inr (.inl 99))], n, t, 0, 0) := pl_go (by decide) (fun _ => pl_T rfl (pl_F rfl (pl_F rfl (pl_F rfl (pl_T rfl (pl_T rfl (pl_T rfl (pl_getf h1 h2 (by omega) j4))))))))
  have s7 : ty_rt M d (ix_cX12_looksFrom O) 38 ([some (.inr (.inr (.inl 80))), some (.inl f), some (.inl a), some (.inl 1)], [.inr (.inr (.inl 99))], n, t, 0, 0) 39 ([some (.inr (.inr (.inl 80))), some (.inl f), some (.inl a), some (.inl 1)], [.inl 0, .inr (.inr (.inl 99))], n, t, 0, 0) := pl_go (by decide) (fun _ => pl_T rfl (pl_F rfl (pl_F rfl (pl_F rfl (pl_T rfl (pl_F rfl (pl_T rfl (rfl))))))))
  have s8 : ty_rt M d (ix_cX12_looksFrom O) 39 ([some (.inr (.inr (.inl 80))), some (.inl f), some (.inl a), some (.inl 1)], [.inl 0, .inr (.inr (.inl 99))], n, t, 0, 0) 40 ([some (.inr (.inr (.inl 80))), some (.inl f), some (.inl a), some (.inl 1)], [.inl f, .inl 0, .inr (.inr (.inl 99))], n, t, 0, 0) := pl_go (by decide) (fun _ => pl_T rfl (pl_F rfl (pl_F rfl (pl_F rfl (pl_F rfl (pl_T rfl (pl_T rfl (rfl))))))))
  have s9 : ty_rt M d (ix_cX12_looksFrom O) 40 ([some (.inr (.inr (.inl 80))), some (.inl f), some (.inl a), some (.inl 1)], [.inl f, .inl 0, .inr (.inr (.inl 99))], n, t, 0, 0) 41 ([some (.inr (.inr (.inl 80))), some (.inl f), some (.inl a), some (.inl 1)], [], n, (pl_set 98 0 (.inl f) t), 0, 0) := pl_go (by decide) (fun _ => pl_T rfl (pl_F rfl (pl_F rfl (pl_F rfl (pl_F rfl (pl_F rfl (pl_T rfl (pl_iast j8 j9 (by omega)))))))))
  have s10 : ty_rt M d (ix_cX12_looksFrom O) 41 ([some (.inr (.inr (.inl 80))), some (.inl f), some (.inl a), some (.inl 1)], [], n, (pl_set 98 0 (.inl f) t), 0, 0) 42 ([some (.inr (.inr (.inl 80))), some (.inl f), some (.inl a), some (.inl 1)], [.inr (.inr (.inl 80))], n, (pl_set 98 0 (.inl f) t), 0, 0) := pl_go (by decide) (fun _ => pl_F rfl (pl_T rfl (pl_T rfl (pl_T rfl (pl_T rfl (pl_T rfl (rfl)))))))
  have s11 : ty_rt M d (ix_cX12_looksFrom O) 42 ([some (.inr (.inr (.inl 80))), some (.inl f), some (.inl a), some (.inl 1)], [.inr (.inr (.inl 80))], n, (pl_set 98 0 (.inl f) t), 0, 0) 45 ([some (.inr (.inr (.inl 80))), some (.inl f), some (.inl a), some (.inl 1)], [.inr (.inr (.inl 99))], n, (pl_set 98 0 (.inl f) t), 0, 0) := pl_go (by decide) (fun _ => pl_F rfl (pl_T rfl (pl_T rfl (pl_T rfl (pl_F rfl (pl_T rfl (pl_T rfl (pl_getf h1 (by rw [pl_set_o (by decide) (show 79 < 16384 by decide) (by decide)]; exact h2) (by rw [pl_set_o (by decide) (show 79 < 16384 by decide) (by decide)]; omega) (by rw [pl_set_o (by decide) (show 79 < 16384 by decide) (by decide)]; exact j4)))))))))
  have s12 : ty_rt M d (ix_cX12_looksFrom O) 45 ([some (.inr (.inr (.inl 80))), some (.inl f), some (.inl a), some (.inl 1)], [.inr (.inr (.inl 99))], n, (pl_set 98 0 (.inl f) t), 0, 0) 46 ([some (.inr (.inr (.inl 80))), some (.inl f), some (.inl a), some (.inl 1)], [.inl 1, .inr (.inr (.inl 99))], n, (pl_set 98 0 (.inl f) t), 0, 0) := pl_go (by decide) (fun _ => pl_F rfl (pl_T rfl (pl_T rfl (pl_T rfl (pl_F rfl (pl_F rfl (pl_T rfl (rfl))))))))
  have s13 : ty_rt M d (ix_cX12_looksFrom O) 46 ([some (.inr (.inr (.inl 80))), some (.inl f), some (.inl a), some (.inl 1)], [.inl 1, .inr (.inr (.inl 99))], n, (pl_set 98 0 (.inl f) t), 0, 0) 47 ([some (.inr (.inr (.inl 80))), some (.inl f), some (.inl a), some (.inl 1)], [.inl a, .inl 1, .inr (.inr (.inl 99))], n, (pl_set 98 0 (.inl f) t), 0, 0) := pl_go (by decide) (fun _ => pl_F rfl (pl_T rfl (pl_T rfl (pl_F rfl (pl_T rfl (pl_T rfl (rfl)))))))
  have s14 : ty_rt M d (ix_cX12_looksFrom O) 47 ([some (.inr (.inr (.inl 80))), some (.inl f), some (.inl a), some (.inl 1)], [.inl a, .inl 1, .inr (.inr (.inl 99))], n, (pl_set 98 0 (.inl f) t), 0, 0) 48 ([some (.inr (.inr (.inl 80))), some (.inl f), some (.inl a), some (.inl 1)], [], n, (pl_set 98 1 (.inl a) (pl_set 98 0 (.inl f) t)), 0, 0) := pl_go (by decide) (fun _ => pl_F rfl (pl_T rfl (pl_T rfl (pl_F rfl (pl_F rfl (pl_T rfl (pl_T rfl (pl_iast j8 (by rw [pl_set_s (by decide)]; exact j9) (by rw [pl_set_s (by decide)]; show _ < (ix_g t 98).2.1; omega)))))))))
  have s15 : ty_rt M d (ix_cX12_looksFrom O) 48 ([some (.inr (.inr (.inl 80))), some (.inl f), some (.inl a), some (.inl 1)], [], n, (pl_set 98 1 (.inl a) (pl_set 98 0 (.inl f) t)), 0, 0) 49 ([some (.inr (.inr (.inl 80))), some (.inl f), some (.inl a), some (.inl 1)], [.inr (.inr (.inl 80))], n, (pl_set 98 1 (.inl a) (pl_set 98 0 (.inl f) t)), 0, 0) := pl_go (by decide) (fun _ => pl_F rfl (pl_T rfl (pl_T rfl (pl_F rfl (pl_F rfl (pl_F rfl (pl_T rfl (rfl))))))))
  have s16 : ty_rt M d (ix_cX12_looksFrom O) 49 ([some (.inr (.inr (.inl 80))), some (.inl f), some (.inl a), some (.inl 1)], [.inr (.inr (.inl 80))], n, (pl_set 98 1 (.inl a) (pl_set 98 0 (.inl f) t)), 0, 0) 52 ([some (.inr (.inr (.inl 80))), some (.inl f), some (.inl a), some (.inl 1)], [.inr (.inr (.inl 99))], n, (pl_set 98 1 (.inl a) (pl_set 98 0 (.inl f) t)), 0, 0) := pl_go (by decide) (fun _ => pl_F rfl (pl_T rfl (pl_F rfl (pl_T rfl (pl_T rfl (pl_T rfl (pl_getf h1 (by rw [pl_set_o (by decide) (show 79 < 16384 by decide) (by decide), pl_set_o (by decide) (show 79 < 16384 by decide) (by decide)]; exact h2) (by rw [pl_set_o (by decide) (show 79 < 16384 by decide) (by decide), pl_set_o (by decide) (show 79 < 16384 by decide) (by decide)]; omega) (by rw [pl_set_o (by decide) (show 79 < 16384 by decide) (by decide), pl_set_o (by decide) (show 79 < 16384 by decide) (by decide)]; exact j4))))))))
  have s17 : ty_rt M d (ix_cX12_looksFrom O) 52 ([some (.inr (.inr (.inl 80))), some (.inl f), some (.inl a), some (.inl 1)], [.inr (.inr (.inl 99))], n, (pl_set 98 1 (.inl a) (pl_set 98 0 (.inl f) t)), 0, 0) 53 ([some (.inr (.inr (.inl 80))), some (.inl f), some (.inl a), some (.inl 1)], [.inl 2, .inr (.inr (.inl 99))], n, (pl_set 98 1 (.inl a) (pl_set 98 0 (.inl f) t)), 0, 0) := pl_go (by decide) (fun _ => pl_F rfl (pl_T rfl (pl_F rfl (pl_T rfl (pl_F rfl (pl_T rfl (pl_T rfl (rfl))))))))
  have s18 : ty_rt M d (ix_cX12_looksFrom O) 53 ([some (.inr (.inr (.inl 80))), some (.inl f), some (.inl a), some (.inl 1)], [.inl 2, .inr (.inr (.inl 99))], n, (pl_set 98 1 (.inl a) (pl_set 98 0 (.inl f) t)), 0, 0) 54 ([some (.inr (.inr (.inl 80))), some (.inl f), some (.inl a), some (.inl 1)], [.inl 1, .inl 2, .inr (.inr (.inl 99))], n, (pl_set 98 1 (.inl a) (pl_set 98 0 (.inl f) t)), 0, 0) := pl_go (by decide) (fun _ => pl_F rfl (pl_T rfl (pl_F rfl (pl_T rfl (pl_F rfl (pl_F rfl (pl_T rfl (rfl))))))))
  have s19 : ty_rt M d (ix_cX12_looksFrom O) 54 ([some (.inr (.inr (.inl 80))), some (.inl f), some (.inl a), some (.inl 1)], [.inl 1, .inl 2, .inr (.inr (.inl 99))], n, (pl_set 98 1 (.inl a) (pl_set 98 0 (.inl f) t)), 0, 0) 55 ([some (.inr (.inr (.inl 80))), some (.inl f), some (.inl a), some (.inl 1)], [], n, (pl_set 98 2 (.inl 1) (pl_set 98 1 (.inl a) (pl_set 98 0 (.inl f) t))), 0, 0) := pl_go (by decide) (fun _ => pl_F rfl (pl_T rfl (pl_F rfl (pl_F rfl (pl_T rfl (pl_T rfl (pl_T rfl (pl_iast j8 (by rw [pl_set_s (by decide)]; show (ix_g (pl_set 98 0 (.inl f) t) 98).1 = 0; rw [pl_set_s (by decide)]; exact j9) (by rw [pl_set_s (by decide)]; show _ < (ix_g (pl_set 98 0 (.inl f) t) 98).2.1; rw [pl_set_s (by decide)]; show _ < (ix_g t 98).2.1; omega)))))))))
  exact s0.tr (s1.tr (s2.tr (s3.tr (s4.tr (s5.tr (s6.tr (s7.tr (s8.tr (s9.tr (s10.tr (s11.tr (s12.tr (s13.tr (s14.tr (s15.tr (s16.tr (s17.tr (s18.tr (s19)))))))))))))))))))
theorem pl_lf5 {M : ix_M} {O : ix_O} {d n f : Nat} {t : ix_T} {a q z : Nat} {u : ix_T} (hq : q < 1000) (HR : ix_rcv 112 [.inr (.inr (.inl 80)), .inl q] n t = true) (hev : ty_ev M d 125 [.inr (.inr (.inl 80)), .inl q] n t ([], [.inl z], n, u, 0, 0)) : ty_rt M d (ix_cX12_looksFrom O) 55 ([some (.inr (.inr (.inl 80))), some (.inl f), some (.inl a), some (.inl (q + 1))], [], n, t, 0, 0) 55 ([some (.inr (.inr (.inl 80))), some (.inl f), some (.inl a), some (.inl z)], [], n, u, 0, 0) := by
  have s0 : ty_rt M d (ix_cX12_looksFrom O) 55 ([some (.inr (.inr (.inl 80))), some (.inl f), some (.inl a), some (.inl (q + 1))], [], n, t, 0, 0) 56 ([some (.inr (.inr (.inl 80))), some (.inl f), some (.inl a), some (.inl (q + 1))], [.inl (q + 1)], n, t, 0, 0) := pl_go (by decide) (fun _ => pl_F rfl (pl_T rfl (pl_F rfl (pl_F rfl (pl_T rfl (pl_F rfl (pl_T rfl (rfl))))))))
  have s1 : ty_rt M d (ix_cX12_looksFrom O) 56 ([some (.inr (.inr (.inl 80))), some (.inl f), some (.inl a), some (.inl (q + 1))], [.inl (q + 1)], n, t, 0, 0) 59 ([some (.inr (.inr (.inl 80))), some (.inl f), some (.inl a), some (.inl (q + 1))], [], n, t, 0, 0) := pl_go (by decide) (fun _ => pl_F rfl (pl_T rfl (pl_F rfl (pl_F rfl (pl_F rfl (pl_T rfl (pl_T rfl (pl_gt_y (by omega) (by omega)))))))))
  have s2 : ty_rt M d (ix_cX12_looksFrom O) 59 ([some (.inr (.inr (.inl 80))), some (.inl f), some (.inl a), some (.inl (q + 1))], [], n, t, 0, 0) 62 ([some (.inr (.inr (.inl 80))), some (.inl f), some (.inl a), some (.inl q)], [], n, t, 0, 0) := pl_go (by decide) (fun _ => pl_F rfl (pl_T rfl (pl_F rfl (pl_F rfl (pl_F rfl (pl_F rfl (pl_T rfl (pl_iinc rfl rfl (pl_dec (by omega))))))))))
  have s3 : ty_rt M d (ix_cX12_looksFrom O) 62 ([some (.inr (.inr (.inl 80))), some (.inl f), some (.inl a), some (.inl q)], [], n, t, 0, 0) 63 ([some (.inr (.inr (.inl 80))), some (.inl f), some (.inl a), some (.inl q)], [.inr (.inr (.inl 80))], n, t, 0, 0) := pl_go (by decide) (fun _ => pl_F rfl (pl_F rfl (pl_T rfl (pl_T rfl (pl_T rfl (pl_T rfl (rfl)))))))
  have s4 : ty_rt M d (ix_cX12_looksFrom O) 63 ([some (.inr (.inr (.inl 80))), some (.inl f), some (.inl a), some (.inl q)], [.inr (.inr (.inl 80))], n, t, 0, 0) 64 ([some (.inr (.inr (.inl 80))), some (.inl f), some (.inl a), some (.inl q)], [.inl q, .inr (.inr (.inl 80))], n, t, 0, 0) := pl_go (by decide) (fun _ => pl_F rfl (pl_F rfl (pl_T rfl (pl_T rfl (pl_F rfl (pl_T rfl (pl_T rfl (rfl))))))))
  have s5 : ty_rt M d (ix_cX12_looksFrom O) 64 ([some (.inr (.inr (.inl 80))), some (.inl f), some (.inl a), some (.inl q)], [.inl q, .inr (.inr (.inl 80))], n, t, 0, 0) 67 ([some (.inr (.inr (.inl 80))), some (.inl f), some (.inl a), some (.inl q)], [.inl z], n, u, 0, 0) := pl_step (by decide) (fun call => pl_F rfl (pl_F rfl (pl_T rfl (pl_T rfl (pl_F rfl (pl_F rfl (pl_T rfl (rfl)))))))) rfl HR rfl hev
  have s6 : ty_rt M d (ix_cX12_looksFrom O) 67 ([some (.inr (.inr (.inl 80))), some (.inl f), some (.inl a), some (.inl q)], [.inl z], n, u, 0, 0) 68 ([some (.inr (.inr (.inl 80))), some (.inl f), some (.inl a), some (.inl z)], [], n, u, 0, 0) := pl_go (by decide) (fun _ => pl_F rfl (pl_F rfl (pl_T rfl (pl_F rfl (pl_T rfl (pl_T rfl (rfl)))))))
  have s7 : ty_rt M d (ix_cX12_looksFrom O) 68 ([some (.inr (.inr (.inl 80))), some (.inl f), some (.inl a), some (.inl z)], [], n, u, 0, 0) 55 ([some (.inr (.inr (.inl 80))), some (.inl f), some (.inl a), some (.inl z)], [], n, u, 0, 0) := pl_go (by decide) (fun _ => pl_F rfl (pl_F rfl (pl_T rfl (pl_F rfl (pl_F rfl (pl_T rfl (pl_T rfl (rfl))))))))
  exact s0.tr (s1.tr (s2.tr (s3.tr (s4.tr (s5.tr (s6.tr (s7)))))))
theorem pl_lf6 {M : ix_M} {O : ix_O} {d n f : Nat} {t : ix_T} {a : Nat}  (ha : a < 4) : ty_rt M d (ix_cX12_looksFrom O) 55 ([some (.inr (.inr (.inl 80))), some (.inl f), some (.inl a), some (.inl 0)], [], n, t, 0, 0) 27 ([some (.inr (.inr (.inl 80))), some (.inl f), some (.inl (a + 1)), some (.inl 0)], [], n, t, 0, 0) := by
  have s0 : ty_rt M d (ix_cX12_looksFrom O) 55 ([some (.inr (.inr (.inl 80))), some (.inl f), some (.inl a), some (.inl 0)], [], n, t, 0, 0) 56 ([some (.inr (.inr (.inl 80))), some (.inl f), some (.inl a), some (.inl 0)], [.inl 0], n, t, 0, 0) := pl_go (by decide) (fun _ => pl_F rfl (pl_T rfl (pl_F rfl (pl_F rfl (pl_T rfl (pl_F rfl (pl_T rfl (rfl))))))))
  have s1 : ty_rt M d (ix_cX12_looksFrom O) 56 ([some (.inr (.inr (.inl 80))), some (.inl f), some (.inl a), some (.inl 0)], [.inl 0], n, t, 0, 0) 71 ([some (.inr (.inr (.inl 80))), some (.inl f), some (.inl a), some (.inl 0)], [], n, t, 0, 0) := pl_go (by decide) (fun _ => pl_F rfl (pl_T rfl (pl_F rfl (pl_F rfl (pl_F rfl (pl_T rfl (pl_T rfl (pl_gt_n))))))))
  have s2 : ty_rt M d (ix_cX12_looksFrom O) 71 ([some (.inr (.inr (.inl 80))), some (.inl f), some (.inl a), some (.inl 0)], [], n, t, 0, 0) 74 ([some (.inr (.inr (.inl 80))), some (.inl f), some (.inl (a + 1)), some (.inl 0)], [], n, t, 0, 0) := pl_go (by decide) (fun _ => pl_F rfl (pl_F rfl (pl_T rfl (pl_F rfl (pl_F rfl (pl_F rfl (pl_T rfl (pl_iinc rfl rfl (pl_add (by omega))))))))))
  have s3 : ty_rt M d (ix_cX12_looksFrom O) 74 ([some (.inr (.inr (.inl 80))), some (.inl f), some (.inl (a + 1)), some (.inl 0)], [], n, t, 0, 0) 27 ([some (.inr (.inr (.inl 80))), some (.inl f), some (.inl (a + 1)), some (.inl 0)], [], n, t, 0, 0) := pl_go (by decide) (fun _ => pl_F rfl (pl_F rfl (pl_F rfl (pl_T rfl (pl_T rfl (pl_T rfl (rfl)))))))
  exact s0.tr (s1.tr (s2.tr (s3)))
theorem pl_lf7 {M : ix_M} {O : ix_O} {d n mo f : Nat} {t : ix_T} {x3 : Option ix_V} (H : pl_gf n mo t) (hf : f < 64) : ty_rt M d (ix_cX12_looksFrom O) 27 ([some (.inr (.inr (.inl 80))), some (.inl f), some (.inl 4), x3], [], n, t, 0, 0) 99999 ([], [], n, (pl_set 97 f (.inl 0) t), 0, 0) := by
  obtain ⟨h1, h2, h3, h4, h5, h6, h7, h8, h9, hm, h10, h11, h12, h13⟩ := H.1
  obtain ⟨_, j1, j2, j3, j4, j5, j6, j7, j8, j9, j10⟩ := H
  have s0 : ty_rt M d (ix_cX12_looksFrom O) 27 ([some (.inr (.inr (.inl 80))), some (.inl f), some (.inl 4), x3], [], n, t, 0, 0) 28 ([some (.inr (.inr (.inl 80))), some (.inl f), some (.inl 4), x3], [.inl 4], n, t, 0, 0) := pl_go (by decide) (fun _ => pl_T rfl (pl_F rfl (pl_T rfl (pl_F rfl (pl_T rfl (pl_T rfl (rfl)))))))
  have s1 : ty_rt M d (ix_cX12_looksFrom O) 28 ([some (.inr (.inr (.inl 80))), some (.inl f), some (.inl 4), x3], [.inl 4], n, t, 0, 0) 29 ([some (.inr (.inr (.inl 80))), some (.inl f), some (.inl 4), x3], [.inl 4, .inl 4], n, t, 0, 0) := pl_go (by decide) (fun _ => pl_T rfl (pl_F rfl (pl_T rfl (pl_F rfl (pl_F rfl (pl_T rfl (pl_T rfl (rfl))))))))
  have s2 : ty_rt M d (ix_cX12_looksFrom O) 29 ([some (.inr (.inr (.inl 80))), some (.inl f), some (.inl 4), x3], [.inl 4, .inl 4], n, t, 0, 0) 77 ([some (.inr (.inr (.inl 80))), some (.inl f), some (.inl 4), x3], [], n, t, 0, 0) := pl_go (by decide) (fun _ => pl_T rfl (pl_F rfl (pl_T rfl (pl_F rfl (pl_F rfl (pl_F rfl (pl_T rfl (pl_ge_y (neg := true) (tgt := 77) (nx := 32) (by decide) (by decide) (Nat.le_refl _)))))))))
  have s3 : ty_rt M d (ix_cX12_looksFrom O) 77 ([some (.inr (.inr (.inl 80))), some (.inl f), some (.inl 4), x3], [], n, t, 0, 0) 78 ([some (.inr (.inr (.inl 80))), some (.inl f), some (.inl 4), x3], [.inr (.inr (.inl 80))], n, t, 0, 0) := pl_go (by decide) (fun _ => pl_F rfl (pl_F rfl (pl_F rfl (pl_T rfl (pl_F rfl (pl_T rfl (pl_T rfl (rfl))))))))
  have s4 : ty_rt M d (ix_cX12_looksFrom O) 78 ([some (.inr (.inr (.inl 80))), some (.inl f), some (.inl 4), x3], [.inr (.inr (.inl 80))], n, t, 0, 0) 81 ([some (.inr (.inr (.inl 80))), some (.inl f), some (.inl 4), x3], [.inr (.inr (.inl 98))], n, t, 0, 0) := pl_go (by decide) (fun _ => pl_F rfl (pl_F rfl (pl_F rfl (pl_T rfl (pl_F rfl (pl_F rfl (pl_T rfl (pl_getf h1 h2 (by omega) j2))))))))
  have s5 : ty_rt M d (ix_cX12_looksFrom O) 81 ([some (.inr (.inr (.inl 80))), some (.inl f), some (.inl 4), x3], [.inr (.inr (.inl 98))], n, t, 0, 0) 82 ([some (.inr (.inr (.inl 80))), some (.inl f), some (.inl 4), x3], [.inl f, .inr (.inr (.inl 98))], n, t, 0, 0) := pl_go (by decide) (fun _ => pl_F rfl (pl_F rfl (pl_F rfl (pl_F rfl (pl_T rfl (pl_T rfl (pl_T rfl (rfl))))))))
  have s6 : ty_rt M d (ix_cX12_looksFrom O) 82 ([some (.inr (.inr (.inl 80))), some (.inl f), some (.inl 4), x3], [.inl f, .inr (.inr (.inl 98))], n, t, 0, 0) 83 ([some (.inr (.inr (.inl 80))), some (.inl f), some (.inl 4), x3], [.inl 0, .inl f, .inr (.inr (.inl 98))], n, t, 0, 0) := pl_go (by decide) (fun _ => pl_F rfl (pl_F rfl (pl_F rfl (pl_F rfl (pl_T rfl (pl_F rfl (pl_T rfl (rfl))))))))
  have s7 : ty_rt M d (ix_cX12_looksFrom O) 83 ([some (.inr (.inr (.inl 80))), some (.inl f), some (.inl 4), x3], [.inl 0, .inl f, .inr (.inr (.inl 98))], n, t, 0, 0) 84 ([some (.inr (.inr (.inl 80))), some (.inl f), some (.inl 4), x3], [], n, (pl_set 97 f (.inl 0) t), 0, 0) := pl_go (by decide) (fun _ => pl_F rfl (pl_F rfl (pl_F rfl (pl_F rfl (pl_F rfl (pl_T rfl (pl_T rfl (pl_iast j5 j6 (by omega)))))))))
  have s8 : ty_rt M d (ix_cX12_looksFrom O) 84 ([some (.inr (.inr (.inl 80))), some (.inl f), some (.inl 4), x3], [], n, (pl_set 97 f (.inl 0) t), 0, 0) 99999 ([], [], n, (pl_set 97 f (.inl 0) t), 0, 0) := pl_go (by decide) (fun _ => pl_F rfl (pl_F rfl (pl_F rfl (pl_F rfl (pl_F rfl (pl_F rfl (pl_T rfl (rfl))))))))
  exact s0.tr (s1.tr (s2.tr (s3.tr (s4.tr (s5.tr (s6.tr (s7.tr (s8))))))))
theorem pl_lf0 {M : ix_M} {O : ix_O} {d n f : Nat} {t : ix_T} {x2 x3 : Option ix_V} {C' : ty_C} (HR : ix_rcv 112 [.inr (.inr (.inl 80))] n t = true) (hst : C'.2.1 = []) (hev : ty_ev M d 147 [.inr (.inr (.inl 80))] n t C') : ty_rt M d (ix_cX12_looksFrom O) 0 ([some (.inr (.inr (.inl 80))), some (.inl f), x2, x3], [], n, t, 0, 0) 4 ([some (.inr (.inr (.inl 80))), some (.inl f), x2, x3], [], C'.2.2.1, C'.2.2.2.1, 0, 0) := by
  obtain ⟨f0, h0⟩ := hev
  have s0 : ty_rt M d (ix_cX12_looksFrom O) 0 ([some (.inr (.inr (.inl 80))), some (.inl f), x2, x3], [], n, t, 0, 0) 1 ([some (.inr (.inr (.inl 80))), some (.inl f), x2, x3], [.inr (.inr (.inl 80))], n, t, 0, 0) := pl_go (by decide) (fun _ => pl_T rfl (pl_T rfl (pl_T rfl (pl_T rfl (pl_T rfl (pl_T rfl (rfl)))))))
  refine s0.tr (ty_rt_step (by decide) ⟨f0, fun g hg => ?_⟩)
  have z := pl_callv (chk := ix_rcv 112) (call := ix_exec M ty_no g d) (na := 1) (y := 147) (mc := 0) (ms := 0) (cC := 0) (cS := 0) (nx := 4) (n := n) (ce := 0) (sl := 0) (ls := [some (.inr (.inr (.inl 80))), some (.inl f), x2, x3]) (st := [.inr (.inr (.inl 80))]) (as := [.inr (.inr (.inl 80))]) (rest := []) (t := t) (C' := C') rfl HR rfl (Nat.le_refl _) (Nat.le_refl _) (h0 g hg)
  rw [List.append_nil, hst] at z
  exact pl_T rfl (pl_T rfl (pl_T rfl (pl_T rfl (pl_F rfl (pl_T rfl (pl_T rfl (z)))))))
/-- what waits is looked at, till nothing waits -/
theorem lf_while {M : ix_M} {O : ix_O} {σ : ty_Sg} {d n mo f a : Nat} (hy : M 125 = some (ix_cX12_goesOn O, 8)) (hM : go_M M O) (hcc : ty_goc h = true) : ∀ (B q : Nat) (t : ix_T), ty_hp h σ n t → go_K n mo t → go_S mo t q → q ≤ 50 → go_P t q ≤ B → ∃ t', ty_rt M (d + 3) (ix_cX12_looksFrom O) 55 ([some (.inr (.inr (.inl 80))), some (.inl f), some (.inl a), some (.inl q)], [], n, t, 0, 0) 55 ([some (.inr (.inr (.inl 80))), some (.inl f), some (.inl a), some (.inl 0)], [], n, t', 0, 0) ∧ ty_hp h σ n t' ∧ go_sm t t' := by
  obtain ⟨A1, A2, A3⟩ := ty_go_all hcc (σ := σ) (n := n)
  intro B
  induction B with
  | zero =>
    intro q t hh hK hS hq hP
    cases q with
    | zero => exact ⟨t, pl_rf, hh, go_sm.rf⟩
    | succ q =>
      obtain ⟨s1, s2, s3, s4, s5⟩ := hS q (by omega)
      have := go_q_1 s3 (by have := hK.2.2.1; omega)
      have e : go_P t (q + 1) = go_P t q + go_q (tx_n t 98 (3 * q + 2)) := rfl
      omega
  | succ B ih =>
    intro q t hh hK hS hq hP
    cases q with
    | zero => exact ⟨t, pl_rf, hh, go_sm.rf⟩
    | succ q =>
      obtain ⟨z, u, i1, i2, i3, i4, i5, i6⟩ := go_on (M := M) (O := O) (d := d) (m := q) (y := 125) hy hM hcc hh hK hS
      obtain ⟨mo2, hK2⟩ := A1 u i2
      have em2 := i5.mo hK hK2
      subst em2
      obtain ⟨t', r1, r2, r3⟩ := ih z u i2 hK2 i3 i6 (by omega)
      have HR : ix_rcv 112 [.inr (.inr (.inl 80)), .inl q] n t = true := by
        show (Nat.blt 79 n && Nat.beq (ix_g t 79).1 112) = true
        rw [ix_blt.mpr hK.1.1.1, ix_beq.mpr hK.1.1.2.1]
        rfl
      exact ⟨t', (pl_lf5 (by omega) HR i1).tr r1, r2, i5.tr r3⟩
/-- the contract of a look, and what it leans on -/
noncomputable def ty_fgK : ty_KT := ([(2, 79, 0, 0)], [(79, 46, 4294967296, 4294967360, 0), (79, 51, 4294967296, 4294970097, 0)], [([], [], [], [0, 1])])
noncomputable def ty_lfK : ty_KT := ([(2, 79, 0, 0), (0, 4294967296, 4294967359, 0)], [(79, 46, 4294967296, 4294967360, 0), (79, 51, 4294967296, 4294970097, 0)], [([], [], [], [0, 1])])
theorem ty_lfK_ok {M : ix_M} {O : ix_O} {cap : Nat → Nat} {d y : Nat} (hl : M y = some (ix_cX12_looksFrom O, 4)) (hy : M 125 = some (ix_cX12_goesOn O, 8)) (hM : go_M M O) (hcc : ty_goc h = true) (hc0 : cap 147 = 0) (hF : ty_KS h M cap (d + 3) 147 ty_fgK) : ty_KS h M cap (d + 4) y ty_lfK := by
  intro σ avs n t hh has hse hn
  rcases avs with _ | ⟨w0, _ | ⟨w1, _ | ⟨w2, r⟩⟩⟩
  · exact has.elim
  · exact has.2.elim
  · have z0 : w0 = .inr (.inr (.inl (79 + 1))) ∧ 79 < 114 := has.1
    have z1 : ∃ m, w1 = .inl m ∧ m < 4294967296 ∧ 4294967296 ≤ ty_kp m ∧ ty_kp m ≤ 4294967359 ∧ ((0 : Nat) = 0 ∨ ty_lab σ.2.1 (0 - 1) t m) := has.2.1
    obtain ⟨rfl, _⟩ := z0
    obtain ⟨f, rfl, f1, f2, f3, _⟩ := z1
    obtain ⟨u1, u2⟩ := ty_nn f1 f2
    have hf : f < 64 := by omega
    obtain ⟨p, pm, σ1, C1, a1, a2, a3, a4, a5, a6, a7, a8, a9⟩ := hF σ [.inr (.inr (.inl 80))] n t hh ⟨has.1, trivial⟩ hse (by rw [hc0]; have := hh.2.1; omega)
    rcases List.mem_cons.mp pm with rfl | pm
    rotate_left
    · cases pm
    obtain ⟨ls1, st1, n1, t1, ce1, sl1⟩ := C1
    have hst : st1 = [] := by
      rcases st1 with _ | ⟨_, _⟩
      · rfl
      · exact a4.elim
    obtain ⟨A1, A2, A3⟩ := ty_go_all hcc (σ := σ1) (n := n1)
    have hh1 : ty_hp h σ1 n1 t1 := a3
    have rcv : ix_rcv 112 [.inr (.inr (.inl 80))] n t = true := by
      obtain ⟨A1', _⟩ := ty_go_all hcc (σ := σ) (n := n)
      obtain ⟨mo0, K0⟩ := A1' t hh
      show (Nat.blt 79 n && Nat.beq (ix_g t 79).1 112) = true
      rw [ix_blt.mpr K0.1.1.1, ix_beq.mpr K0.1.1.2.1]
      rfl
    have r0 := pl_lf0 (M := M) (O := O) (d := d + 3) (f := f) (x2 := none) (x3 := none) rcv hst a9
    -- nothing is seen
    have clear : ∀ i, i ≤ 64 → ∃ u, ty_rt M (d + 3) (ix_cX12_looksFrom O) 6 ([some (.inr (.inr (.inl 80))), some (.inl f), some (.inl 0), none], [], n1, t1, 0, 0) 6 ([some (.inr (.inr (.inl 80))), some (.inl f), some (.inl i), none], [], n1, u, 0, 0) ∧ ty_hp h σ1 n1 u ∧ go_sm t1 u := by
      intro i
      induction i with
      | zero => exact fun _ => ⟨t1, pl_rf, hh1, go_sm.rf⟩
      | succ i ih =>
        intro hi
        obtain ⟨u, b1, b2, b3⟩ := ih (by omega)
        obtain ⟨mo, K⟩ := A1 u b2
        exact ⟨_, b1.tr (pl_lf2 K.1 (by omega)), A2 u i 4294967295 b2 (by omega) (Or.inl rfl), b3.tr go_set97⟩
    obtain ⟨u, b1, b2, b3⟩ := clear 64 (Nat.le_refl _)
    -- four directions
    have four : ∀ a, a ≤ 4 → ∃ v x3, ty_rt M (d + 3) (ix_cX12_looksFrom O) 27 ([some (.inr (.inr (.inl 80))), some (.inl f), some (.inl 0), none], [], n1, u, 0, 0) 27 ([some (.inr (.inr (.inl 80))), some (.inl f), some (.inl a), x3], [], n1, v, 0, 0) ∧ ty_hp h σ1 n1 v ∧ go_sm u v := by
      intro a
      induction a with
      | zero => exact fun _ => ⟨u, none, pl_rf, b2, go_sm.rf⟩
      | succ a ih =>
        intro ha
        obtain ⟨v, x3, c1, c2, c3⟩ := ih (by omega)
        obtain ⟨mo, K⟩ := A1 v c2
        have v1 := A3 v 0 f c2 (by decide) hf
        have v2 := A3 _ 1 a v1 (by decide) (by omega)
        have v3 := A3 _ 2 1 v2 (by decide) (by decide)
        have sm3 : go_sm v (pl_set 98 2 (.inl 1) (pl_set 98 1 (.inl a) (pl_set 98 0 (.inl f) v))) := (go_set98 (c := 0) (v := .inl f)).tr ((go_set98 (c := 1) (v := .inl a)).tr go_set98)
        obtain ⟨mo3, K3⟩ := A1 _ v3
        have l1 := K.2.2.2.2.2.2.2
        have l2 := K.1.2.2.2.2.2.2.2.2.2.2
        have w1 : (ix_g (pl_set 98 0 (.inl f) v) 98).2.1 = (ix_g v 98).2.1 := by rw [pl_set_s (by decide)]
        have w2 : (ix_g (pl_set 98 1 (.inl a) (pl_set 98 0 (.inl f) v)) 98).2.1 = (ix_g v 98).2.1 := by rw [pl_set_s (by decide)]; exact w1
        have val : ∀ j, j < 192 → tx_n (pl_set 98 2 (.inl 1) (pl_set 98 1 (.inl a) (pl_set 98 0 (.inl f) v))) 98 j = if j = 2 then 1 else if j = 1 then a else if j = 0 then f else tx_n v 98 j := fun j hj => by
          rw [tx_n_set98 (by rw [w2]; exact l1) (by rw [w2]; exact l2) (by decide) hj, tx_n_set98 (by rw [w1]; exact l1) (by rw [w1]; exact l2) (by decide) hj, tx_n_set98 l1 l2 (by decide) hj]
        have hS : go_S mo3 (pl_set 98 2 (.inl 1) (pl_set 98 1 (.inl a) (pl_set 98 0 (.inl f) v))) 1 := fun i hi => by
          have ei : i = 0 := by omega
          subst ei
          rw [val (3 * 0) (by decide), val (3 * 0 + 1) (by decide), val (3 * 0 + 2) (by decide)]
          exact ⟨hf, (by show a < 4; omega), Nat.le_refl 1, K3.2.1, Nat.zero_le _⟩
        obtain ⟨v', e1, e2, e3⟩ := lf_while (M := M) (O := O) (d := d) (f := f) (a := a) hy hM hcc _ 1 _ v3 K3 hS (by decide) (Nat.le_refl _)
        exact ⟨v', some (.inl 0), c1.tr ((pl_lf4 K.1 (by omega)).tr (e1.tr (pl_lf6 (by omega)))), e2, c3.tr (sm3.tr e3)⟩
    obtain ⟨v, x3, c1, c2, c3⟩ := four 4 (Nat.le_refl _)
    obtain ⟨mo, K⟩ := A1 v c2
    have last := A2 v f 0 c2 hf (Or.inr (by decide))
    have sm : go_sm t1 (pl_set 97 f (.inl 0) v) := b3.tr (c3.tr go_set97)
    have hev : ty_ev M (d + 4) y [.inr (.inr (.inl 80)), .inl f] n t ([], [], n1, pl_set 97 f (.inl 0) v, 0, 0) := pl_call (avs := [.inr (.inr (.inl 80)), .inl f]) hl (show 2 ≤ 4 by decide) (r0.tr (pl_lf1.tr (b1.tr (pl_lf3.tr (c1.tr (pl_lf7 K.1 hf))))))
    refine ⟨_, List.mem_cons_self, σ1, ([], [], n1, pl_set 97 f (.inl 0) v, 0, 0), a1, a2, last, trivial, (fun e he => absurd he List.not_mem_nil), (fun r hr => absurd hr List.not_mem_nil), fun i hi e hV => ?_, ?_, hev⟩
    · have k := a7 i hi e hV
      have e79 : e.1 = 79 := by
        rcases List.mem_cons.mp hi with rfl | hi
        · cases hV; rfl
        · rcases List.mem_cons.mp hi with rfl | hi
          · cases hV; rfl
          · cases hi
      show ix_g (ix_g (pl_set 97 f (.inl 0) v) e.1).2.2 e.2.1 = _
      rw [e79] at k ⊢
      rw [sm 79 (by decide) (by decide) (by decide)]
      exact k
    · have q : n1 ≤ n + cap 147 := a8
      rw [hc0] at q
      show n1 ≤ n + cap y
      omega
  · exact has.2.2.elim
end TYLF
