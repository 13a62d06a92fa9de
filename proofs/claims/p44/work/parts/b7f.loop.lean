/-! the law's loop -/
section LWF
variable {O : ix_O} {L i n ce sl : Nat} {f : ix_A} {v : Nat → Nat} {t : ix_T}
theorem lw_sub {L : Nat} (hL : L ≤ 3072) : ix_bias (ix_sub L 6) = L + 2147483648 - 6 := by
  have e1 : ix_sub L 6 = (L + 4294967296 - 6) % 4294967296 := rfl
  have e2 : ix_bias (ix_sub L 6) = (ix_sub L 6 + 2147483648) % 4294967296 := rfl
  rw [e2, e1]
  omega
theorem lw_alen {nx : Nat} {ls : ix_L} {st : List ix_V} {w : Nat × Nat} (hO : O 1000000 = some (L, f)) (hn : n ≤ 16384) : ix_alen O nx ([], ls, .inr (.inr (.inl 1000001)) :: st, n, t, w) = some [(nx, ([], ls, .inl L :: st, n, t, w))] := by
  show (match cond (Nat.blt 1000000 n) (match ix_g t 1000000 with | (kd, q) => cond (Nat.blt kd 98) (some q) none) (cond (Nat.blt 1000000 1000000) none (O 1000000)) with
    | some (len, _) => some [(nx, ([], ls, ix_vI len :: st, n, t, w))]
    | none => none) = _
  rw [ix_blt_f.mpr (show ¬ 1000000 < n by omega), cond_false, ix_blt_f.mpr (Nat.lt_irrefl 1000000), cond_false, hO]
/-- to the loop's condition -/
theorem lw_head (h0 : O 1000000 = some (L, f)) (hn : n ≤ 16384) : ty_rt (ix_tbl O) 410 (ix_cLw O) 18 (lw_ls i, [], n, t, ce, sl) 24 (lw_ls i, [.inl (ix_sub L 6), .inl i], n, t, ce, sl) := by
  have s0 : ty_rt (ix_tbl O) 410 (ix_cLw O) 18 (lw_ls i, [], n, t, ce, sl) 19 (lw_ls i, [.inl i], n, t, ce, sl) := pl_go (by decide) (fun _ => rfl)
  have s1 : ty_rt (ix_tbl O) 410 (ix_cLw O) 19 (lw_ls i, [.inl i], n, t, ce, sl) 20 (lw_ls i, [.inr (.inr (.inl 1000001)), .inl i], n, t, ce, sl) := pl_go (by decide) (fun _ => rfl)
  have s2 : ty_rt (ix_tbl O) 410 (ix_cLw O) 20 (lw_ls i, [.inr (.inr (.inl 1000001)), .inl i], n, t, ce, sl) 21 (lw_ls i, [.inl L, .inl i], n, t, ce, sl) := pl_go (by decide) (fun call => by
    have e : ix_cLw O call 20 = ix_alen O 21 := rfl
    rw [e]
    exact lw_alen h0 hn)
  have s3 : ty_rt (ix_tbl O) 410 (ix_cLw O) 21 (lw_ls i, [.inl L, .inl i], n, t, ce, sl) 23 (lw_ls i, [.inl 6, .inl L, .inl i], n, t, ce, sl) := pl_go (by decide) (fun _ => rfl)
  have s4 : ty_rt (ix_tbl O) 410 (ix_cLw O) 23 (lw_ls i, [.inl 6, .inl L, .inl i], n, t, ce, sl) 24 (lw_ls i, [.inl (ix_sub L 6), .inl i], n, t, ce, sl) := pl_go (by decide) (fun call => by
    have e : ix_cLw O call 23 = ix_isub 24 := rfl
    rw [e]
    rfl)
  exact s0.tr (s1.tr (s2.tr (s3.tr s4)))
theorem lw_gt_n {tgt nx a b : Nat} {ls : ix_L} {st : List ix_V} {w : Nat × (ix_T × (Nat × Nat))} (h : ¬ ix_bias b < ix_bias a) : ix_icmp true false true tgt nx ([], ls, .inl b :: .inl a :: st, w) = some [(nx, ([], ls, st, w))] := by
  show ix_br (some (cond (Nat.blt (ix_bias b) (ix_bias a)) ([([] : ix_B)], []) ([], [[]]))) tgt nx (ls, st, w) = _
  rw [ix_blt_f.mpr h]
  rfl
theorem lw_gt_y {tgt nx a b : Nat} {ls : ix_L} {st : List ix_V} {w : Nat × (ix_T × (Nat × Nat))} (h : ix_bias b < ix_bias a) : ix_icmp true false true tgt nx ([], ls, .inl b :: .inl a :: st, w) = some [(tgt, ([], ls, st, w))] := by
  show ix_br (some (cond (Nat.blt (ix_bias b) (ix_bias a)) ([([] : ix_B)], []) ([], [[]]))) tgt nx (ls, st, w) = _
  rw [ix_blt.mpr h]
  rfl
theorem lw_to33 (H : lw_H O L f v i n ce sl t) : ty_rt (ix_tbl O) 410 (ix_cLw O) 18 (lw_ls i, [], n, t, ce, sl) 33 (lw_ls i, [.inl (Nat.land (v i) 63)], n, t, ce, sl) := by
  obtain ⟨hO, h0, h1, h2, h3, h4, h5, h6, h7, h8⟩ := H
  have s5 : ty_rt (ix_tbl O) 410 (ix_cLw O) 24 (lw_ls i, [.inl (ix_sub L 6), .inl i], n, t, ce, sl) 27 (lw_ls i, [], n, t, ce, sl) := pl_go (by decide) (fun call => by
    have e : ix_cLw O call 24 = ix_icmp true false true 1499 27 := rfl
    rw [e]
    exact lw_gt_n (by rw [lw_sub h3, pl_bias (show i < 2147483648 by omega)]; omega))
  have s6 : ty_rt (ix_tbl O) 410 (ix_cLw O) 27 (lw_ls i, [], n, t, ce, sl) 28 (lw_ls i, [.inr (.inr (.inl 1000001))], n, t, ce, sl) := pl_go (by decide) (fun _ => rfl)
  have s7 : ty_rt (ix_tbl O) 410 (ix_cLw O) 28 (lw_ls i, [.inr (.inr (.inl 1000001))], n, t, ce, sl) 29 (lw_ls i, [.inl i, .inr (.inr (.inl 1000001))], n, t, ce, sl) := pl_go (by decide) (fun _ => rfl)
  have s8 : ty_rt (ix_tbl O) 410 (ix_cLw O) 29 (lw_ls i, [.inl i, .inr (.inr (.inl 1000001))], n, t, ce, sl) 30 (lw_ls i, [.inl (v i)], n, t, ce, sl) := pl_go (by decide) (fun call => by
    have e : ix_cLw O call 29 = ix_iald O 29 30 := rfl
    rw [e]
    exact lw_oald h0 h1 (by omega) (by omega))
  have s9 : ty_rt (ix_tbl O) 410 (ix_cLw O) 30 (lw_ls i, [.inl (v i)], n, t, ce, sl) 32 (lw_ls i, [.inl 63, .inl (v i)], n, t, ce, sl) := pl_go (by decide) (fun _ => rfl)
  have s10 : ty_rt (ix_tbl O) 410 (ix_cLw O) 32 (lw_ls i, [.inl 63, .inl (v i)], n, t, ce, sl) 33 (lw_ls i, [.inl (Nat.land (v i) 63)], n, t, ce, sl) := pl_go (by decide) (fun call => by
    have e : ix_cLw O call 32 = ix_ibin Nat.land 32 33 := rfl
    rw [e]
    rfl)
  exact (lw_head h0 (by omega)).tr (s5.tr (s6.tr (s7.tr (s8.tr (s9.tr s10)))))
theorem lw_sw {m : Nat} (tg : Nat) (hs : ([(0, 228), (1, 261), (2, 294), (3, 337), (4, 370), (5, 393), (6, 426), (7, 459), (8, 472), (9, 515), (10, 538), (11, 571), (12, 634), (13, 657), (14, 670), (15, 683), (16, 696), (17, 709), (18, 722), (19, 735), (20, 758), (21, 801), (22, 834), (23, 857), (24, 890), (25, 933), (26, 966), (27, 989), (28, 1012), (29, 1045), (30, 1088), (31, 1111), (32, 1144), (33, 1167), (34, 1180), (35, 1233), (36, 1276), (37, 1299), (38, 1322), (39, 1345), (40, 1378), (41, 1411), (42, 1434), (43, 1457), (44, 1480)].find? (fun q : Nat × Nat => Nat.beq q.1 m)).elim 1493 (fun q => q.2) = tg) (h : lw_T O i n ce sl tg t) : ∃ n' t', lw_hq n' t' ∧ n' ≤ n + 16 ∧ ∃ ce' sl', ce' ≤ ce + 16 ∧ sl' ≤ sl + 600 ∧ ty_rt (ix_tbl O) 410 (ix_cLw O) 33 (lw_ls i, [.inl m], n, t, ce, sl) 1493 (lw_ls i, [], n', t', ce', sl') := by
  obtain ⟨n', t', a1, a2, ce', sl', a3, a4, a5⟩ := h
  have s0 : ty_rt (ix_tbl O) 410 (ix_cLw O) 33 (lw_ls i, [.inl m], n, t, ce, sl) tg (lw_ls i, [], n, t, ce, sl) := pl_go (by decide) (fun call => by
    have e : ix_cLw O call 33 = ix_sw [(0, 228), (1, 261), (2, 294), (3, 337), (4, 370), (5, 393), (6, 426), (7, 459), (8, 472), (9, 515), (10, 538), (11, 571), (12, 634), (13, 657), (14, 670), (15, 683), (16, 696), (17, 709), (18, 722), (19, 735), (20, 758), (21, 801), (22, 834), (23, 857), (24, 890), (25, 933), (26, 966), (27, 989), (28, 1012), (29, 1045), (30, 1088), (31, 1111), (32, 1144), (33, 1167), (34, 1180), (35, 1233), (36, 1276), (37, 1299), (38, 1322), (39, 1345), (40, 1378), (41, 1411), (42, 1434), (43, 1457), (44, 1480)] 1493 33 := rfl
    rw [e]
    show some [(([(0, 228), (1, 261), (2, 294), (3, 337), (4, 370), (5, 393), (6, 426), (7, 459), (8, 472), (9, 515), (10, 538), (11, 571), (12, 634), (13, 657), (14, 670), (15, 683), (16, 696), (17, 709), (18, 722), (19, 735), (20, 758), (21, 801), (22, 834), (23, 857), (24, 890), (25, 933), (26, 966), (27, 989), (28, 1012), (29, 1045), (30, 1088), (31, 1111), (32, 1144), (33, 1167), (34, 1180), (35, 1233), (36, 1276), (37, 1299), (38, 1322), (39, 1345), (40, 1378), (41, 1411), (42, 1434), (43, 1457), (44, 1480)].find? (fun q : Nat × Nat => Nat.beq q.1 m)).elim 1493 (fun q => q.2), ([], lw_ls i, [], n, t, ce, sl))] = _
    rw [hs])
  exact ⟨n', t', a1, a2, ce', sl', a3, a4, s0.tr a5⟩
theorem lw_swd {m : Nat} (hs : ([(0, 228), (1, 261), (2, 294), (3, 337), (4, 370), (5, 393), (6, 426), (7, 459), (8, 472), (9, 515), (10, 538), (11, 571), (12, 634), (13, 657), (14, 670), (15, 683), (16, 696), (17, 709), (18, 722), (19, 735), (20, 758), (21, 801), (22, 834), (23, 857), (24, 890), (25, 933), (26, 966), (27, 989), (28, 1012), (29, 1045), (30, 1088), (31, 1111), (32, 1144), (33, 1167), (34, 1180), (35, 1233), (36, 1276), (37, 1299), (38, 1322), (39, 1345), (40, 1378), (41, 1411), (42, 1434), (43, 1457), (44, 1480)].find? (fun q : Nat × Nat => Nat.beq q.1 m)).elim 1493 (fun q => q.2) = 1493) (H : lw_H O L f v i n ce sl t) : ∃ n' t', lw_hq n' t' ∧ n' ≤ n + 16 ∧ ∃ ce' sl', ce' ≤ ce + 16 ∧ sl' ≤ sl + 600 ∧ ty_rt (ix_tbl O) 410 (ix_cLw O) 33 (lw_ls i, [.inl m], n, t, ce, sl) 1493 (lw_ls i, [], n', t', ce', sl') :=
  lw_sw 1493 hs ⟨n, t, H.2.2.2.2.2.2.2.2.2, Nat.le_add_right _ _, ce, sl, Nat.le_add_right _ _, Nat.le_add_right _ _, pl_rf⟩
theorem lw_any {m : Nat} (hm : m < 64) (H : lw_H O L f v i n ce sl t) : ∃ n' t', lw_hq n' t' ∧ n' ≤ n + 16 ∧ ∃ ce' sl', ce' ≤ ce + 16 ∧ sl' ≤ sl + 600 ∧ ty_rt (ix_tbl O) 410 (ix_cLw O) 33 (lw_ls i, [.inl m], n, t, ce, sl) 1493 (lw_ls i, [], n', t', ce', sl') := by
  rcases (show m = 0 ∨ m = 1 ∨ m = 2 ∨ m = 3 ∨ m = 4 ∨ m = 5 ∨ m = 6 ∨ m = 7 ∨ m = 8 ∨ m = 9 ∨ m = 10 ∨ m = 11 ∨ m = 12 ∨ m = 13 ∨ m = 14 ∨ m = 15 ∨ m = 16 ∨ m = 17 ∨ m = 18 ∨ m = 19 ∨ m = 20 ∨ m = 21 ∨ m = 22 ∨ m = 23 ∨ m = 24 ∨ m = 25 ∨ m = 26 ∨ m = 27 ∨ m = 28 ∨ m = 29 ∨ m = 30 ∨ m = 31 ∨ m = 32 ∨ m = 33 ∨ m = 34 ∨ m = 35 ∨ m = 36 ∨ m = 37 ∨ m = 38 ∨ m = 39 ∨ m = 40 ∨ m = 41 ∨ m = 42 ∨ m = 43 ∨ m = 44 ∨ m = 45 ∨ m = 46 ∨ m = 47 ∨ m = 48 ∨ m = 49 ∨ m = 50 ∨ m = 51 ∨ m = 52 ∨ m = 53 ∨ m = 54 ∨ m = 55 ∨ m = 56 ∨ m = 57 ∨ m = 58 ∨ m = 59 ∨ m = 60 ∨ m = 61 ∨ m = 62 ∨ m = 63 by omega) with h0 | h1 | h2 | h3 | h4 | h5 | h6 | h7 | h8 | h9 | h10 | h11 | h12 | h13 | h14 | h15 | h16 | h17 | h18 | h19 | h20 | h21 | h22 | h23 | h24 | h25 | h26 | h27 | h28 | h29 | h30 | h31 | h32 | h33 | h34 | h35 | h36 | h37 | h38 | h39 | h40 | h41 | h42 | h43 | h44 | h45 | h46 | h47 | h48 | h49 | h50 | h51 | h52 | h53 | h54 | h55 | h56 | h57 | h58 | h59 | h60 | h61 | h62 | h63
  · subst h0; exact lw_sw 228 (rfl) (lw_op0 H)
  · subst h1; exact lw_sw 261 (rfl) (lw_op1 H)
  · subst h2; exact lw_sw 294 (rfl) (lw_op2 H)
  · subst h3; exact lw_sw 337 (rfl) (lw_op3 H)
  · subst h4; exact lw_sw 370 (rfl) (lw_op4 H)
  · subst h5; exact lw_sw 393 (rfl) (lw_op5 H)
  · subst h6; exact lw_sw 426 (rfl) (lw_op6 H)
  · subst h7; exact lw_sw 459 (rfl) (lw_op7 H)
  · subst h8; exact lw_sw 472 (rfl) (lw_op8 H)
  · subst h9; exact lw_sw 515 (rfl) (lw_op9 H)
  · subst h10; exact lw_sw 538 (rfl) (lw_op10 H)
  · subst h11; exact lw_sw 571 (rfl) (lw_op11 H)
  · subst h12; exact lw_sw 634 (rfl) (lw_op12 H)
  · subst h13; exact lw_sw 657 (rfl) (lw_op13 H)
  · subst h14; exact lw_sw 670 (rfl) (lw_op14 H)
  · subst h15; exact lw_sw 683 (rfl) (lw_op15 H)
  · subst h16; exact lw_sw 696 (rfl) (lw_op16 H)
  · subst h17; exact lw_sw 709 (rfl) (lw_op17 H)
  · subst h18; exact lw_sw 722 (rfl) (lw_op18 H)
  · subst h19; exact lw_sw 735 (rfl) (lw_op19 H)
  · subst h20; exact lw_sw 758 (rfl) (lw_op20 H)
  · subst h21; exact lw_sw 801 (rfl) (lw_op21 H)
  · subst h22; exact lw_sw 834 (rfl) (lw_op22 H)
  · subst h23; exact lw_sw 857 (rfl) (lw_op23 H)
  · subst h24; exact lw_sw 890 (rfl) (lw_op24 H)
  · subst h25; exact lw_sw 933 (rfl) (lw_op25 H)
  · subst h26; exact lw_sw 966 (rfl) (lw_op26 H)
  · subst h27; exact lw_sw 989 (rfl) (lw_op27 H)
  · subst h28; exact lw_sw 1012 (rfl) (lw_op28 H)
  · subst h29; exact lw_sw 1045 (rfl) (lw_op29 H)
  · subst h30; exact lw_sw 1088 (rfl) (lw_op30 H)
  · subst h31; exact lw_sw 1111 (rfl) (lw_op31 H)
  · subst h32; exact lw_sw 1144 (rfl) (lw_op32 H)
  · subst h33; exact lw_sw 1167 (rfl) (lw_op33 H)
  · subst h34; exact lw_sw 1180 (rfl) (lw_op34 H)
  · subst h35; exact lw_sw 1233 (rfl) (lw_op35 H)
  · subst h36; exact lw_sw 1276 (rfl) (lw_op36 H)
  · subst h37; exact lw_sw 1299 (rfl) (lw_op37 H)
  · subst h38; exact lw_sw 1322 (rfl) (lw_op38 H)
  · subst h39; exact lw_sw 1345 (rfl) (lw_op39 H)
  · subst h40; exact lw_sw 1378 (rfl) (lw_op40 H)
  · subst h41; exact lw_sw 1411 (rfl) (lw_op41 H)
  · subst h42; exact lw_sw 1434 (rfl) (lw_op42 H)
  · subst h43; exact lw_sw 1457 (rfl) (lw_op43 H)
  · subst h44; exact lw_sw 1480 (rfl) (lw_op44 H)
  · subst h45; exact lw_swd rfl H
  · subst h46; exact lw_swd rfl H
  · subst h47; exact lw_swd rfl H
  · subst h48; exact lw_swd rfl H
  · subst h49; exact lw_swd rfl H
  · subst h50; exact lw_swd rfl H
  · subst h51; exact lw_swd rfl H
  · subst h52; exact lw_swd rfl H
  · subst h53; exact lw_swd rfl H
  · subst h54; exact lw_swd rfl H
  · subst h55; exact lw_swd rfl H
  · subst h56; exact lw_swd rfl H
  · subst h57; exact lw_swd rfl H
  · subst h58; exact lw_swd rfl H
  · subst h59; exact lw_swd rfl H
  · subst h60; exact lw_swd rfl H
  · subst h61; exact lw_swd rfl H
  · subst h62; exact lw_swd rfl H
  · subst h63; exact lw_swd rfl H
/-- one turn -/
theorem lw_turn (H : lw_H O L f v i n ce sl t) : ∃ n' t', lw_hq n' t' ∧ n' ≤ n + 16 ∧ ∃ ce' sl', ce' ≤ ce + 16 ∧ sl' ≤ sl + 600 ∧ ty_rt (ix_tbl O) 410 (ix_cLw O) 18 (lw_ls i, [], n, t, ce, sl) 18 (lw_ls (i + 6), [], n', t', ce', sl') := by
  have hm : Nat.land (v i) 63 < 64 := by
    have : Nat.land (v i) 63 ≤ 63 := Nat.and_le_right
    omega
  obtain ⟨n', t', a1, a2, ce', sl', a3, a4, a5⟩ := lw_any hm H
  have hi : i + 6 ≤ 3072 := by have := H.2.2.2.2.1; have := H.2.2.2.2.2.1; omega
  have s1 : ty_rt (ix_tbl O) 410 (ix_cLw O) 1493 (lw_ls i, [], n', t', ce', sl') 1496 (lw_ls (i + 6), [], n', t', ce', sl') := pl_go (by decide) (fun call => by
    have e : ix_cLw O call 1493 = ix_iinc 3 6 1496 := rfl
    rw [e]
    exact pl_iinc rfl rfl (pl_add (by omega)))
  have s2 : ty_rt (ix_tbl O) 410 (ix_cLw O) 1496 (lw_ls (i + 6), [], n', t', ce', sl') 18 (lw_ls (i + 6), [], n', t', ce', sl') := pl_go (by decide) (fun _ => rfl)
  exact ⟨n', t', a1, a2, ce', sl', a3, a4, (lw_to33 H).tr (a5.tr (s1.tr s2))⟩
def lw_end (o : ix_S) : Prop := o.1 = [] ∧ o.2.2.1 = [.inl 1]
/-- the loop ends, and the answer is 1 -/
theorem lw_all (hO : ty_hO O) (h0 : O 1000000 = some (L, f)) (h1 : ∀ j, j < L → ix_g f j = .inl (v j)) (h2 : ∀ j, v j < 4294967296) (h3 : L ≤ 3072) : ∀ (k i n ce sl : Nat) (t : ix_T), L < i + 6 * k + 6 → i ≤ 3072 → n + 16 * k ≤ 16384 → ce + 16 * k ≤ 600000 → sl + 600 * k ≤ 7302250 → lw_hq n t → ∃ o, lw_end o ∧ ty_rn (ix_tbl O) 410 (ix_cLw O) 18 (lw_ls i, [], n, t, ce, sl) o := by
  have fin : ∀ (i n ce sl : Nat) (t : ix_T), L < i + 6 → i ≤ 3072 → n ≤ 16384 → ∃ o, lw_end o ∧ ty_rn (ix_tbl O) 410 (ix_cLw O) 18 (lw_ls i, [], n, t, ce, sl) o := fun i n ce sl t hi hi2 hn => by
    have s5 : ty_rt (ix_tbl O) 410 (ix_cLw O) 24 (lw_ls i, [.inl (ix_sub L 6), .inl i], n, t, ce, sl) 1499 (lw_ls i, [], n, t, ce, sl) := pl_go (by decide) (fun call => by
      have e : ix_cLw O call 24 = ix_icmp true false true 1499 27 := rfl
      rw [e]
      exact lw_gt_y (by rw [lw_sub h3, pl_bias (show i < 2147483648 by omega)]; omega))
    have s6 : ty_rt (ix_tbl O) 410 (ix_cLw O) 1499 (lw_ls i, [], n, t, ce, sl) 1500 (lw_ls i, [.inl 1], n, t, ce, sl) := pl_go (by decide) (fun _ => rfl)
    have s7 : ty_rt (ix_tbl O) 410 (ix_cLw O) 1500 (lw_ls i, [.inl 1], n, t, ce, sl) 99999 ([], [.inl 1], n, t, ce, sl) := pl_go (by decide) (fun _ => rfl)
    refine ⟨([], ([], [.inl 1], n, t, ce, sl)), ⟨rfl, rfl⟩, ((lw_head h0 hn).tr (s5.tr (s6.tr s7))) _ ⟨1, fun g _ u hu => ?_⟩⟩
    obtain ⟨w, rfl⟩ : ∃ w, u = w + 1 := ⟨u - 1, by omega⟩
    rw [ix_loop_succ, ix_beq.mpr rfl]
    rfl
  intro k
  induction k with
  | zero => exact fun i n ce sl t a1 a2 a3 a4 _ a6 => fin i n ce sl t (by omega) a2 (by omega)
  | succ k ih =>
    intro i n ce sl t a1 a2 a3 a4 a5 a6
    by_cases hi : i + 6 ≤ L
    · have q1 : n + 16 ≤ 16384 := by clear a4 a5 a6; omega
      have q2 : ce + 16 ≤ 600000 := by clear a3 a5 a6; omega
      have e5 : sl + 600 + 600 * k ≤ 7302250 := by
        rw [Nat.mul_succ, Nat.add_comm (600 * k) 600, ← Nat.add_assoc] at a5
        exact a5
      have q3 : sl + 600 ≤ 7302250 := Nat.le_trans (Nat.le_add_right _ _) e5
      have H : lw_H O L f v i n ce sl t := ⟨hO, h0, h1, h2, h3, hi, q1, q2, q3, a6⟩
      obtain ⟨n', t', b1, b2, ce', sl', b3, b4, b5⟩ := lw_turn H
      obtain ⟨o, o1, o2⟩ := ih (i + 6) n' ce' sl' t' (by clear a5 e5; omega) (by clear a5 e5; omega) (by clear a5 e5; omega) (by clear a5 e5; omega) (Nat.le_trans (Nat.add_le_add_right b4 _) e5) b1
      exact ⟨o, o1, b5 o o2⟩
    · exact fin i n ce sl t (by clear a5; omega) a2 (by clear a5; omega)
/-- the whole law, by the plain machine -/
theorem lw_whole (hO : ty_hO O) (h0 : O 1000000 = some (L, f)) (h1 : ∀ j, j < L → ix_g f j = .inl (v j)) (h2 : ∀ j, v j < 4294967296) (h3 : L ≤ 3072) : ∃ o, lw_end o ∧ ty_rn (ix_tbl O) 410 (ix_cLw O) 0 ([some (.inr (.inr (.inl 1000001))), none, none, none], [], 0, .leaf ix_dflt, 0, 0) o := by
  obtain ⟨o, o1, o2⟩ := lw_all hO h0 h1 h2 h3 512 0 114 114 38626 lw_t3 (by omega) (by decide) (by decide) (by decide) (by decide) lw_hq0
  exact ⟨o, o1, lw_pre o o2⟩
end LWF
