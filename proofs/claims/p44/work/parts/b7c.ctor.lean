/-! both objects are made -/
section LWC
noncomputable def lw_Oz : ix_O := fun _ => none
noncomputable def lw_t1 : ix_T := ix_u 14 (.leaf ix_dflt) 0 (111, 15, ix_f11)
noncomputable def lw_r1x : Option (List ix_S) := ix_exec (lw_tb0 lw_Oz) ty_no 20000 12 59 [.inr (.inr (.inl 1))] [] 1 lw_t1
noncomputable def lw_one (r : Option (List ix_S)) : ty_C := match r with
  | some [(_, C)] => C
  | _ => ([], [], 0, .leaf ix_dflt, 0, 0)
noncomputable def lw_is1 (r : Option (List ix_S)) (n : Nat) : Bool := match r with
  | some [([], (_, ([], (m, _))))] => Nat.beq m n
  | _ => false
theorem lw_is1_ok {r : Option (List ix_S)} {n : Nat} (h : lw_is1 r n = true) : r = some [([], lw_one r)] ∧ (lw_one r).2.1 = [] ∧ (lw_one r).2.2.1 = n := by
  unfold lw_is1 at h
  split at h
  · exact ⟨rfl, rfl, ix_beq.mp h⟩
  · cases h
noncomputable def lw_t2 : ix_T := ix_u 14 (lw_one lw_r1x).2.2.2.1 79 (112, 62, ix_f12)
noncomputable def lw_r2x : Option (List ix_S) := ix_exec (lw_tb0 lw_Oz) ty_no 20000 12 133 [.inr (.inr (.inl 80))] [] 80 lw_t2
noncomputable def lw_t3 : ix_T := (lw_one lw_r2x).2.2.2.1
set_option maxRecDepth 10000000 in
theorem lw_k1 : lw_is1 lw_r1x 79 = true := by decide +kernel
set_option maxRecDepth 10000000 in
theorem lw_k2 : lw_is1 lw_r2x 114 = true := by decide +kernel
variable {O : ix_O}
theorem lw_oz : pm_o lw_Oz O := fun i q h => by cases h
theorem lw_ev1 : ty_ev (ix_tbl O) 410 59 [.inr (.inr (.inl 1))] 1 lw_t1 (lw_one lw_r1x) := ⟨20000, fun g hg => pm_exec (lw_tb0_ok lw_oz) 12 410 20000 g (by decide) hg _ _ _ _ _ _ (lw_is1_ok lw_k1).1⟩
theorem lw_ev2 : ty_ev (ix_tbl O) 410 133 [.inr (.inr (.inl 80))] 80 lw_t2 (lw_one lw_r2x) := ⟨20000, fun g hg => pm_exec (lw_tb0_ok lw_oz) 12 410 20000 g (by decide) hg _ _ _ _ _ _ (lw_is1_ok lw_k2).1⟩
theorem lw_ctor {y n n' ce sl pc nx kd mc ms o : Nat} {t t' : ix_T} {ls : ix_L} {C : ty_C} (hP : ∀ call, ix_cLw O call pc = ix_call (ix_rcv kd) call 1 y mc ms 600000 7302250 nx) (hp : ¬ pc = 99999) (hev : ty_ev (ix_tbl O) 410 y [.inr (.inr (.inl (o + 1)))] n t C) (hst : C.2.1 = []) (hn : C.2.2.1 = n') (ht : C.2.2.2.1 = t') (ho : o < n) (hk : (ix_g t o).1 = kd) (h1 : ce + mc ≤ 600000) (h2 : sl + ms ≤ 7302250) : ty_rt (ix_tbl O) 410 (ix_cLw O) pc (ls, [.inr (.inr (.inl (o + 1))), .inr (.inr (.inl (o + 1)))], n, t, ce, sl) nx (ls, [.inr (.inr (.inl (o + 1)))], n', t', ce + mc, sl + ms) := by
  obtain ⟨f0, h0⟩ := hev
  refine ty_rt_step hp ⟨f0, fun g hg => ?_⟩
  rw [hP]
  have hc : ix_rcv kd [.inr (.inr (.inl (o + 1)))] n t = true := by
    show (Nat.blt o n && Nat.beq (ix_g t o).1 kd) = true
    rw [ix_blt.mpr ho, ix_beq.mpr hk]
    rfl
  have z := pl_callv (chk := ix_rcv kd) (call := ix_exec (ix_tbl O) ty_no g 410) (na := 1) (y := y) (mc := mc) (ms := ms) (cC := 600000) (cS := 7302250) (nx := nx) (n := n) (ce := ce) (sl := sl) (ls := ls) (st := [.inr (.inr (.inl (o + 1))), .inr (.inr (.inl (o + 1)))]) (t := t) rfl hc rfl h1 h2 (h0 g hg)
  rw [hst, hn, ht] at z
  exact z
theorem lw_g1 : (ix_g lw_t1 0).1 = 111 := by
  unfold lw_t1
  rw [ix_gu 14 _ 0 0 _ (by decide) (by decide), if_pos rfl]
theorem lw_g2 : (ix_g lw_t2 79).1 = 112 := by
  unfold lw_t2
  rw [ix_gu 14 _ 79 79 _ (by decide) (by decide), if_pos rfl]
theorem lw_g3 : (lw_one lw_r2x).2.2.2.1 = lw_t3 := by
  unfold lw_t3
  rfl
/-- from the law's entry to its loop -/
theorem lw_pre : ty_rt (ix_tbl O) 410 (ix_cLw O) 0 ([some (.inr (.inr (.inl 1000001))), none, none, none], [], 0, .leaf ix_dflt, 0, 0) 18 (lw_ls 0, [], 114, lw_t3, 114, 38626) := by
  have s0 : ty_rt (ix_tbl O) 410 (ix_cLw O) 0 ([some (.inr (.inr (.inl 1000001))), none, none, none], [], 0, .leaf ix_dflt, 0, 0) 3 ([some (.inr (.inr (.inl 1000001))), none, none, none], [.inr (.inr (.inl 1))], 1, lw_t1, 1, 15) := pl_go (by decide) (fun _ => rfl)
  have s1 : ty_rt (ix_tbl O) 410 (ix_cLw O) 3 ([some (.inr (.inr (.inl 1000001))), none, none, none], [.inr (.inr (.inl 1))], 1, lw_t1, 1, 15) 4 ([some (.inr (.inr (.inl 1000001))), none, none, none], [.inr (.inr (.inl 1)), .inr (.inr (.inl 1))], 1, lw_t1, 1, 15) := pl_go (by decide) (fun _ => rfl)
  have s2 : ty_rt (ix_tbl O) 410 (ix_cLw O) 4 ([some (.inr (.inr (.inl 1000001))), none, none, none], [.inr (.inr (.inl 1)), .inr (.inr (.inl 1))], 1, lw_t1, 1, 15) 7 ([some (.inr (.inr (.inl 1000001))), none, none, none], [.inr (.inr (.inl 1))], 79, (lw_one lw_r1x).2.2.2.1, 79, 8967) := lw_ctor (o := 0) (pc := 4) (nx := 7) (ce := 1) (sl := 15) (mc := 78) (ms := 8952) (y := 59) (kd := 111) (n := 1) (n' := 79) (fun _ => rfl) (by decide) lw_ev1 (lw_is1_ok lw_k1).2.1 (lw_is1_ok lw_k1).2.2 rfl (by decide) lw_g1 (by decide) (by decide)
  have s3 : ty_rt (ix_tbl O) 410 (ix_cLw O) 7 ([some (.inr (.inr (.inl 1000001))), none, none, none], [.inr (.inr (.inl 1))], 79, (lw_one lw_r1x).2.2.2.1, 79, 8967) 8 ([some (.inr (.inr (.inl 1000001))), some (.inr (.inr (.inl 1))), none, none], [], 79, (lw_one lw_r1x).2.2.2.1, 79, 8967) := pl_go (by decide) (fun _ => rfl)
  have s4 : ty_rt (ix_tbl O) 410 (ix_cLw O) 8 ([some (.inr (.inr (.inl 1000001))), some (.inr (.inr (.inl 1))), none, none], [], 79, (lw_one lw_r1x).2.2.2.1, 79, 8967) 11 ([some (.inr (.inr (.inl 1000001))), some (.inr (.inr (.inl 1))), none, none], [.inr (.inr (.inl 80))], 80, lw_t2, 80, 9029) := pl_go (by decide) (fun _ => rfl)
  have s5 : ty_rt (ix_tbl O) 410 (ix_cLw O) 11 ([some (.inr (.inr (.inl 1000001))), some (.inr (.inr (.inl 1))), none, none], [.inr (.inr (.inl 80))], 80, lw_t2, 80, 9029) 12 ([some (.inr (.inr (.inl 1000001))), some (.inr (.inr (.inl 1))), none, none], [.inr (.inr (.inl 80)), .inr (.inr (.inl 80))], 80, lw_t2, 80, 9029) := pl_go (by decide) (fun _ => rfl)
  have s6 : ty_rt (ix_tbl O) 410 (ix_cLw O) 12 ([some (.inr (.inr (.inl 1000001))), some (.inr (.inr (.inl 1))), none, none], [.inr (.inr (.inl 80)), .inr (.inr (.inl 80))], 80, lw_t2, 80, 9029) 15 ([some (.inr (.inr (.inl 1000001))), some (.inr (.inr (.inl 1))), none, none], [.inr (.inr (.inl 80))], 114, lw_t3, 114, 38626) := lw_ctor (o := 79) (pc := 12) (nx := 15) (ce := 80) (sl := 9029) (mc := 34) (ms := 29597) (y := 133) (kd := 112) (n := 80) (n' := 114) (fun _ => rfl) (by decide) lw_ev2 (lw_is1_ok lw_k2).2.1 (lw_is1_ok lw_k2).2.2 lw_g3 (by decide) lw_g2 (by decide) (by decide)
  have s7 : ty_rt (ix_tbl O) 410 (ix_cLw O) 15 ([some (.inr (.inr (.inl 1000001))), some (.inr (.inr (.inl 1))), none, none], [.inr (.inr (.inl 80))], 114, lw_t3, 114, 38626) 16 ([some (.inr (.inr (.inl 1000001))), some (.inr (.inr (.inl 1))), some (.inr (.inr (.inl 80))), none], [], 114, lw_t3, 114, 38626) := pl_go (by decide) (fun _ => rfl)
  have s8 : ty_rt (ix_tbl O) 410 (ix_cLw O) 16 ([some (.inr (.inr (.inl 1000001))), some (.inr (.inr (.inl 1))), some (.inr (.inr (.inl 80))), none], [], 114, lw_t3, 114, 38626) 17 ([some (.inr (.inr (.inl 1000001))), some (.inr (.inr (.inl 1))), some (.inr (.inr (.inl 80))), none], [.inl 0], 114, lw_t3, 114, 38626) := pl_go (by decide) (fun _ => rfl)
  have s9 : ty_rt (ix_tbl O) 410 (ix_cLw O) 17 ([some (.inr (.inr (.inl 1000001))), some (.inr (.inr (.inl 1))), some (.inr (.inr (.inl 80))), none], [.inl 0], 114, lw_t3, 114, 38626) 18 (lw_ls 0, [], 114, lw_t3, 114, 38626) := pl_go (by decide) (fun _ => rfl)
  exact s0.tr (s1.tr (s2.tr (s3.tr (s4.tr (s5.tr (s6.tr (s7.tr (s8.tr s9))))))))
end LWC
