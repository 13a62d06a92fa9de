/-! every script of at most six ints: which run serves it -/
theorem xbias {n : Nat} (h : n < 64) : ix_bias n = n + 2147483648 := by
  unfold ix_bias
  exact Nat.mod_eq_of_lt (by show n + 2147483648 < 4294967296; omega)
theorem xib {xs : Nat → Int32} {k : Nat} (hk : k < 64) (h : xs 0 &&& 63 = Int32.ofNat k) : ix_ib (xσ xs) (ix_Bop k) := by
  have e : ix_bz ((xσ xs).1 7) = ix_bias k := by
    show ix_bz (xs 0 &&& 63) = _
    rw [h, ix_bz_ok (by omega)]
  have := (ix_ff (σ := xσ xs) 8).set (x := 7) (lo := ix_bias k) (hi := ix_bias k) (Nat.le_of_eq e.symm) (Nat.le_of_eq e)
  exact this
theorem xib_full {xs : Nat → Int32} : ix_ib (xσ xs) ix_Bfull := ix_ff (σ := xσ xs) 8
theorem xib_rest {xs : Nat → Int32} {k : Nat} (h1 : 45 ≤ k) (h2 : k < 64) (h : xs 0 &&& 63 = Int32.ofNat k) : ix_ib (xσ xs) ix_Brest := by
  have e : ix_bz ((xσ xs).1 7) = k + 2147483648 := by
    show ix_bz (xs 0 &&& 63) = _
    rw [h, ix_bz_ok (by omega), xbias h2]
  have := (ix_ff (σ := xσ xs) 8).set (x := 7) (lo := ix_bias 45) (hi := ix_bias 63) (by rw [e, xbias (by omega)]; omega) (by rw [e, xbias (by omega)]; omega)
  exact this
theorem xop_20 {p : Program} {e : Env} {s : State} {m : MethodId} {below : List Frame} {meth : Method} {c : Code} (l : Launch) {b : Nat} {xs : Nat → Int32} (C0 : lw_At p s m meth c b 6 xs) (h : xs 0 &&& 63 = Int32.ofNat 20) : W p l e room_1 s m #[Value.ref b] below meth c s.heap [] 0 0 (lw_Z below #[Value.ref b] s) (entryFrame m ([Value.ref b] : List Value).toArray 4) := by
  have hl := ix_bz_lt ((xσ xs).1 1)
  have hb := xib (by decide) h
  by_cases c0 : ix_bz ((xσ xs).1 1) ≤ 2147483647
  · exact xlaw2 l (Nat.le_refl 6) C0 iz_S1 iz_co1 _ (hb.set (x := 1) (lo := 0) (hi := 2147483647) (by omega) c0) xh_20_0
  by_cases c1 : ix_bz ((xσ xs).1 1) ≤ 2147483648
  · exact xlaw2 l (Nat.le_refl 6) C0 iz_S1 iz_co1 _ (hb.set (x := 1) (lo := 2147483648) (hi := 2147483648) (by omega) c1) xh_20_1
  by_cases c2 : ix_bz ((xσ xs).1 1) ≤ 2147483649
  · exact xlaw2 l (Nat.le_refl 6) C0 iz_S1 iz_co1 _ (hb.set (x := 1) (lo := 2147483649) (hi := 2147483649) (by omega) c2) xh_20_2
  by_cases c3 : ix_bz ((xσ xs).1 1) ≤ 2147483650
  · exact xlaw2 l (Nat.le_refl 6) C0 iz_S1 iz_co1 _ (hb.set (x := 1) (lo := 2147483650) (hi := 2147483650) (by omega) c3) xh_20_3
  by_cases c4 : ix_bz ((xσ xs).1 1) ≤ 2147483651
  · exact xlaw2 l (Nat.le_refl 6) C0 iz_S1 iz_co1 _ (hb.set (x := 1) (lo := 2147483651) (hi := 2147483651) (by omega) c4) xh_20_4
  by_cases c5 : ix_bz ((xσ xs).1 1) ≤ 2147483652
  · exact xlaw2 l (Nat.le_refl 6) C0 iz_S1 iz_co1 _ (hb.set (x := 1) (lo := 2147483652) (hi := 2147483652) (by omega) c5) xh_20_5
  by_cases c6 : ix_bz ((xσ xs).1 1) ≤ 2147483653
  · exact xlaw2 l (Nat.le_refl 6) C0 iz_S1 iz_co1 _ (hb.set (x := 1) (lo := 2147483653) (hi := 2147483653) (by omega) c6) xh_20_6
  by_cases c7 : ix_bz ((xσ xs).1 1) ≤ 2147483654
  · exact xlaw2 l (Nat.le_refl 6) C0 iz_S1 iz_co1 _ (hb.set (x := 1) (lo := 2147483654) (hi := 2147483654) (by omega) c7) xh_20_7
  by_cases c8 : ix_bz ((xσ xs).1 1) ≤ 2147483655
  · exact xlaw2 l (Nat.le_refl 6) C0 iz_S1 iz_co1 _ (hb.set (x := 1) (lo := 2147483655) (hi := 2147483655) (by omega) c8) xh_20_8
  by_cases c9 : ix_bz ((xσ xs).1 1) ≤ 2147483656
  · exact xlaw2 l (Nat.le_refl 6) C0 iz_S1 iz_co1 _ (hb.set (x := 1) (lo := 2147483656) (hi := 2147483656) (by omega) c9) xh_20_9
  by_cases c10 : ix_bz ((xσ xs).1 1) ≤ 2147483657
  · exact xlaw2 l (Nat.le_refl 6) C0 iz_S1 iz_co1 _ (hb.set (x := 1) (lo := 2147483657) (hi := 2147483657) (by omega) c10) xh_20_10
  by_cases c11 : ix_bz ((xσ xs).1 1) ≤ 2147483658
  · exact xlaw2 l (Nat.le_refl 6) C0 iz_S1 iz_co1 _ (hb.set (x := 1) (lo := 2147483658) (hi := 2147483658) (by omega) c11) xh_20_11
  by_cases c12 : ix_bz ((xσ xs).1 1) ≤ 2147483659
  · exact xlaw2 l (Nat.le_refl 6) C0 iz_S1 iz_co1 _ (hb.set (x := 1) (lo := 2147483659) (hi := 2147483659) (by omega) c12) xh_20_12
  by_cases c13 : ix_bz ((xσ xs).1 1) ≤ 2147483660
  · exact xlaw2 l (Nat.le_refl 6) C0 iz_S1 iz_co1 _ (hb.set (x := 1) (lo := 2147483660) (hi := 2147483660) (by omega) c13) xh_20_13
  by_cases c14 : ix_bz ((xσ xs).1 1) ≤ 2147483661
  · exact xlaw2 l (Nat.le_refl 6) C0 iz_S1 iz_co1 _ (hb.set (x := 1) (lo := 2147483661) (hi := 2147483661) (by omega) c14) xh_20_14
  by_cases c15 : ix_bz ((xσ xs).1 1) ≤ 2147483662
  · exact xlaw2 l (Nat.le_refl 6) C0 iz_S1 iz_co1 _ (hb.set (x := 1) (lo := 2147483662) (hi := 2147483662) (by omega) c15) xh_20_15
  by_cases c16 : ix_bz ((xσ xs).1 1) ≤ 2147483663
  · exact xlaw2 l (Nat.le_refl 6) C0 iz_S1 iz_co1 _ (hb.set (x := 1) (lo := 2147483663) (hi := 2147483663) (by omega) c16) xh_20_16
  by_cases c17 : ix_bz ((xσ xs).1 1) ≤ 2147483664
  · exact xlaw2 l (Nat.le_refl 6) C0 iz_S1 iz_co1 _ (hb.set (x := 1) (lo := 2147483664) (hi := 2147483664) (by omega) c17) xh_20_17
  by_cases c18 : ix_bz ((xσ xs).1 1) ≤ 2147483665
  · exact xlaw2 l (Nat.le_refl 6) C0 iz_S1 iz_co1 _ (hb.set (x := 1) (lo := 2147483665) (hi := 2147483665) (by omega) c18) xh_20_18
  by_cases c19 : ix_bz ((xσ xs).1 1) ≤ 2147483666
  · exact xlaw2 l (Nat.le_refl 6) C0 iz_S1 iz_co1 _ (hb.set (x := 1) (lo := 2147483666) (hi := 2147483666) (by omega) c19) xh_20_19
  by_cases c20 : ix_bz ((xσ xs).1 1) ≤ 2147483667
  · exact xlaw2 l (Nat.le_refl 6) C0 iz_S1 iz_co1 _ (hb.set (x := 1) (lo := 2147483667) (hi := 2147483667) (by omega) c20) xh_20_20
  by_cases c21 : ix_bz ((xσ xs).1 1) ≤ 2147483668
  · exact xlaw2 l (Nat.le_refl 6) C0 iz_S1 iz_co1 _ (hb.set (x := 1) (lo := 2147483668) (hi := 2147483668) (by omega) c21) xh_20_21
  by_cases c22 : ix_bz ((xσ xs).1 1) ≤ 2147483669
  · exact xlaw2 l (Nat.le_refl 6) C0 iz_S1 iz_co1 _ (hb.set (x := 1) (lo := 2147483669) (hi := 2147483669) (by omega) c22) xh_20_22
  by_cases c23 : ix_bz ((xσ xs).1 1) ≤ 2147483670
  · exact xlaw2 l (Nat.le_refl 6) C0 iz_S1 iz_co1 _ (hb.set (x := 1) (lo := 2147483670) (hi := 2147483670) (by omega) c23) xh_20_23
  by_cases c24 : ix_bz ((xσ xs).1 1) ≤ 2147483671
  · exact xlaw2 l (Nat.le_refl 6) C0 iz_S1 iz_co1 _ (hb.set (x := 1) (lo := 2147483671) (hi := 2147483671) (by omega) c24) xh_20_24
  by_cases c25 : ix_bz ((xσ xs).1 1) ≤ 2147483672
  · exact xlaw2 l (Nat.le_refl 6) C0 iz_S1 iz_co1 _ (hb.set (x := 1) (lo := 2147483672) (hi := 2147483672) (by omega) c25) xh_20_25
  by_cases c26 : ix_bz ((xσ xs).1 1) ≤ 2147483673
  · exact xlaw2 l (Nat.le_refl 6) C0 iz_S1 iz_co1 _ (hb.set (x := 1) (lo := 2147483673) (hi := 2147483673) (by omega) c26) xh_20_26
  by_cases c27 : ix_bz ((xσ xs).1 1) ≤ 2147483674
  · exact xlaw2 l (Nat.le_refl 6) C0 iz_S1 iz_co1 _ (hb.set (x := 1) (lo := 2147483674) (hi := 2147483674) (by omega) c27) xh_20_27
  by_cases c28 : ix_bz ((xσ xs).1 1) ≤ 2147483675
  · exact xlaw2 l (Nat.le_refl 6) C0 iz_S1 iz_co1 _ (hb.set (x := 1) (lo := 2147483675) (hi := 2147483675) (by omega) c28) xh_20_28
  by_cases c29 : ix_bz ((xσ xs).1 1) ≤ 2147483676
  · exact xlaw2 l (Nat.le_refl 6) C0 iz_S1 iz_co1 _ (hb.set (x := 1) (lo := 2147483676) (hi := 2147483676) (by omega) c29) xh_20_29
  by_cases c30 : ix_bz ((xσ xs).1 1) ≤ 2147483677
  · exact xlaw2 l (Nat.le_refl 6) C0 iz_S1 iz_co1 _ (hb.set (x := 1) (lo := 2147483677) (hi := 2147483677) (by omega) c30) xh_20_30
  by_cases c31 : ix_bz ((xσ xs).1 1) ≤ 2147483678
  · exact xlaw2 l (Nat.le_refl 6) C0 iz_S1 iz_co1 _ (hb.set (x := 1) (lo := 2147483678) (hi := 2147483678) (by omega) c31) xh_20_31
  by_cases c32 : ix_bz ((xσ xs).1 1) ≤ 2147483679
  · exact xlaw2 l (Nat.le_refl 6) C0 iz_S1 iz_co1 _ (hb.set (x := 1) (lo := 2147483679) (hi := 2147483679) (by omega) c32) xh_20_32
  by_cases c33 : ix_bz ((xσ xs).1 1) ≤ 2147483680
  · exact xlaw2 l (Nat.le_refl 6) C0 iz_S1 iz_co1 _ (hb.set (x := 1) (lo := 2147483680) (hi := 2147483680) (by omega) c33) xh_20_33
  by_cases c34 : ix_bz ((xσ xs).1 1) ≤ 2147483681
  · exact xlaw2 l (Nat.le_refl 6) C0 iz_S1 iz_co1 _ (hb.set (x := 1) (lo := 2147483681) (hi := 2147483681) (by omega) c34) xh_20_34
  by_cases c35 : ix_bz ((xσ xs).1 1) ≤ 2147483682
  · exact xlaw2 l (Nat.le_refl 6) C0 iz_S1 iz_co1 _ (hb.set (x := 1) (lo := 2147483682) (hi := 2147483682) (by omega) c35) xh_20_35
  by_cases c36 : ix_bz ((xσ xs).1 1) ≤ 2147483683
  · exact xlaw2 l (Nat.le_refl 6) C0 iz_S1 iz_co1 _ (hb.set (x := 1) (lo := 2147483683) (hi := 2147483683) (by omega) c36) xh_20_36
  by_cases c37 : ix_bz ((xσ xs).1 1) ≤ 2147483684
  · exact xlaw2 l (Nat.le_refl 6) C0 iz_S1 iz_co1 _ (hb.set (x := 1) (lo := 2147483684) (hi := 2147483684) (by omega) c37) xh_20_37
  by_cases c38 : ix_bz ((xσ xs).1 1) ≤ 2147483685
  · exact xlaw2 l (Nat.le_refl 6) C0 iz_S1 iz_co1 _ (hb.set (x := 1) (lo := 2147483685) (hi := 2147483685) (by omega) c38) xh_20_38
  by_cases c39 : ix_bz ((xσ xs).1 1) ≤ 2147483686
  · exact xlaw2 l (Nat.le_refl 6) C0 iz_S1 iz_co1 _ (hb.set (x := 1) (lo := 2147483686) (hi := 2147483686) (by omega) c39) xh_20_39
  by_cases c40 : ix_bz ((xσ xs).1 1) ≤ 2147483687
  · exact xlaw2 l (Nat.le_refl 6) C0 iz_S1 iz_co1 _ (hb.set (x := 1) (lo := 2147483687) (hi := 2147483687) (by omega) c40) xh_20_40
  by_cases c41 : ix_bz ((xσ xs).1 1) ≤ 2147483688
  · exact xlaw2 l (Nat.le_refl 6) C0 iz_S1 iz_co1 _ (hb.set (x := 1) (lo := 2147483688) (hi := 2147483688) (by omega) c41) xh_20_41
  by_cases c42 : ix_bz ((xσ xs).1 1) ≤ 2147483689
  · exact xlaw2 l (Nat.le_refl 6) C0 iz_S1 iz_co1 _ (hb.set (x := 1) (lo := 2147483689) (hi := 2147483689) (by omega) c42) xh_20_42
  by_cases c43 : ix_bz ((xσ xs).1 1) ≤ 2147483690
  · exact xlaw2 l (Nat.le_refl 6) C0 iz_S1 iz_co1 _ (hb.set (x := 1) (lo := 2147483690) (hi := 2147483690) (by omega) c43) xh_20_43
  by_cases c44 : ix_bz ((xσ xs).1 1) ≤ 2147483691
  · exact xlaw2 l (Nat.le_refl 6) C0 iz_S1 iz_co1 _ (hb.set (x := 1) (lo := 2147483691) (hi := 2147483691) (by omega) c44) xh_20_44
  by_cases c45 : ix_bz ((xσ xs).1 1) ≤ 2147483692
  · exact xlaw2 l (Nat.le_refl 6) C0 iz_S1 iz_co1 _ (hb.set (x := 1) (lo := 2147483692) (hi := 2147483692) (by omega) c45) xh_20_45
  by_cases c46 : ix_bz ((xσ xs).1 1) ≤ 2147483693
  · exact xlaw2 l (Nat.le_refl 6) C0 iz_S1 iz_co1 _ (hb.set (x := 1) (lo := 2147483693) (hi := 2147483693) (by omega) c46) xh_20_46
  by_cases c47 : ix_bz ((xσ xs).1 1) ≤ 2147483694
  · exact xlaw2 l (Nat.le_refl 6) C0 iz_S1 iz_co1 _ (hb.set (x := 1) (lo := 2147483694) (hi := 2147483694) (by omega) c47) xh_20_47
  by_cases c48 : ix_bz ((xσ xs).1 1) ≤ 2147483695
  · exact xlaw2 l (Nat.le_refl 6) C0 iz_S1 iz_co1 _ (hb.set (x := 1) (lo := 2147483695) (hi := 2147483695) (by omega) c48) xh_20_48
  by_cases c49 : ix_bz ((xσ xs).1 1) ≤ 2147483696
  · exact xlaw2 l (Nat.le_refl 6) C0 iz_S1 iz_co1 _ (hb.set (x := 1) (lo := 2147483696) (hi := 2147483696) (by omega) c49) xh_20_49
  by_cases c50 : ix_bz ((xσ xs).1 1) ≤ 2147483697
  · exact xlaw2 l (Nat.le_refl 6) C0 iz_S1 iz_co1 _ (hb.set (x := 1) (lo := 2147483697) (hi := 2147483697) (by omega) c50) xh_20_50
  by_cases c51 : ix_bz ((xσ xs).1 1) ≤ 2147483698
  · exact xlaw2 l (Nat.le_refl 6) C0 iz_S1 iz_co1 _ (hb.set (x := 1) (lo := 2147483698) (hi := 2147483698) (by omega) c51) xh_20_51
  by_cases c52 : ix_bz ((xσ xs).1 1) ≤ 2147483699
  · exact xlaw2 l (Nat.le_refl 6) C0 iz_S1 iz_co1 _ (hb.set (x := 1) (lo := 2147483699) (hi := 2147483699) (by omega) c52) xh_20_52
  by_cases c53 : ix_bz ((xσ xs).1 1) ≤ 2147483700
  · exact xlaw2 l (Nat.le_refl 6) C0 iz_S1 iz_co1 _ (hb.set (x := 1) (lo := 2147483700) (hi := 2147483700) (by omega) c53) xh_20_53
  by_cases c54 : ix_bz ((xσ xs).1 1) ≤ 2147483701
  · exact xlaw2 l (Nat.le_refl 6) C0 iz_S1 iz_co1 _ (hb.set (x := 1) (lo := 2147483701) (hi := 2147483701) (by omega) c54) xh_20_54
  by_cases c55 : ix_bz ((xσ xs).1 1) ≤ 2147483702
  · exact xlaw2 l (Nat.le_refl 6) C0 iz_S1 iz_co1 _ (hb.set (x := 1) (lo := 2147483702) (hi := 2147483702) (by omega) c55) xh_20_55
  by_cases c56 : ix_bz ((xσ xs).1 1) ≤ 2147483703
  · exact xlaw2 l (Nat.le_refl 6) C0 iz_S1 iz_co1 _ (hb.set (x := 1) (lo := 2147483703) (hi := 2147483703) (by omega) c56) xh_20_56
  by_cases c57 : ix_bz ((xσ xs).1 1) ≤ 2147483704
  · exact xlaw2 l (Nat.le_refl 6) C0 iz_S1 iz_co1 _ (hb.set (x := 1) (lo := 2147483704) (hi := 2147483704) (by omega) c57) xh_20_57
  by_cases c58 : ix_bz ((xσ xs).1 1) ≤ 2147483705
  · exact xlaw2 l (Nat.le_refl 6) C0 iz_S1 iz_co1 _ (hb.set (x := 1) (lo := 2147483705) (hi := 2147483705) (by omega) c58) xh_20_58
  by_cases c59 : ix_bz ((xσ xs).1 1) ≤ 2147483706
  · exact xlaw2 l (Nat.le_refl 6) C0 iz_S1 iz_co1 _ (hb.set (x := 1) (lo := 2147483706) (hi := 2147483706) (by omega) c59) xh_20_59
  by_cases c60 : ix_bz ((xσ xs).1 1) ≤ 2147483707
  · exact xlaw2 l (Nat.le_refl 6) C0 iz_S1 iz_co1 _ (hb.set (x := 1) (lo := 2147483707) (hi := 2147483707) (by omega) c60) xh_20_60
  by_cases c61 : ix_bz ((xσ xs).1 1) ≤ 2147483708
  · exact xlaw2 l (Nat.le_refl 6) C0 iz_S1 iz_co1 _ (hb.set (x := 1) (lo := 2147483708) (hi := 2147483708) (by omega) c61) xh_20_61
  by_cases c62 : ix_bz ((xσ xs).1 1) ≤ 2147483709
  · exact xlaw2 l (Nat.le_refl 6) C0 iz_S1 iz_co1 _ (hb.set (x := 1) (lo := 2147483709) (hi := 2147483709) (by omega) c62) xh_20_62
  by_cases c63 : ix_bz ((xσ xs).1 1) ≤ 2147483710
  · exact xlaw2 l (Nat.le_refl 6) C0 iz_S1 iz_co1 _ (hb.set (x := 1) (lo := 2147483710) (hi := 2147483710) (by omega) c63) xh_20_63
  by_cases c64 : ix_bz ((xσ xs).1 1) ≤ 2147483711
  · exact xlaw2 l (Nat.le_refl 6) C0 iz_S1 iz_co1 _ (hb.set (x := 1) (lo := 2147483711) (hi := 2147483711) (by omega) c64) xh_20_64
  exact xlaw2 l (Nat.le_refl 6) C0 iz_S1 iz_co1 _ (hb.set (x := 1) (lo := 2147483712) (hi := 4294967295) (by omega) (by omega)) xh_20_65
theorem xop_21 {p : Program} {e : Env} {s : State} {m : MethodId} {below : List Frame} {meth : Method} {c : Code} (l : Launch) {b : Nat} {xs : Nat → Int32} (C0 : lw_At p s m meth c b 6 xs) (h : xs 0 &&& 63 = Int32.ofNat 21) : W p l e room_1 s m #[Value.ref b] below meth c s.heap [] 0 0 (lw_Z below #[Value.ref b] s) (entryFrame m ([Value.ref b] : List Value).toArray 4) := by
  have hl := ix_bz_lt ((xσ xs).1 1)
  have hb := xib (by decide) h
  by_cases c0 : ix_bz ((xσ xs).1 1) ≤ 2147483647
  · exact xlaw2 l (Nat.le_refl 6) C0 iz_S2 iz_co2 _ (hb.set (x := 1) (lo := 0) (hi := 2147483647) (by omega) c0) xh_21_0
  by_cases c1 : ix_bz ((xσ xs).1 1) ≤ 2147483655
  · exact xlaw2 l (Nat.le_refl 6) C0 iz_S2 iz_co2 _ (hb.set (x := 1) (lo := 2147483648) (hi := 2147483655) (by omega) c1) xh_21_1
  by_cases c2 : ix_bz ((xσ xs).1 1) ≤ 2147483663
  · exact xlaw2 l (Nat.le_refl 6) C0 iz_S2 iz_co2 _ (hb.set (x := 1) (lo := 2147483656) (hi := 2147483663) (by omega) c2) xh_21_2
  by_cases c3 : ix_bz ((xσ xs).1 1) ≤ 2147483671
  · exact xlaw2 l (Nat.le_refl 6) C0 iz_S2 iz_co2 _ (hb.set (x := 1) (lo := 2147483664) (hi := 2147483671) (by omega) c3) xh_21_3
  by_cases c4 : ix_bz ((xσ xs).1 1) ≤ 2147483679
  · exact xlaw2 l (Nat.le_refl 6) C0 iz_S2 iz_co2 _ (hb.set (x := 1) (lo := 2147483672) (hi := 2147483679) (by omega) c4) xh_21_4
  by_cases c5 : ix_bz ((xσ xs).1 1) ≤ 2147483687
  · exact xlaw2 l (Nat.le_refl 6) C0 iz_S2 iz_co2 _ (hb.set (x := 1) (lo := 2147483680) (hi := 2147483687) (by omega) c5) xh_21_5
  by_cases c6 : ix_bz ((xσ xs).1 1) ≤ 2147483695
  · exact xlaw2 l (Nat.le_refl 6) C0 iz_S2 iz_co2 _ (hb.set (x := 1) (lo := 2147483688) (hi := 2147483695) (by omega) c6) xh_21_6
  by_cases c7 : ix_bz ((xσ xs).1 1) ≤ 2147483699
  · exact xlaw2 l (Nat.le_refl 6) C0 iz_S2 iz_co2 _ (hb.set (x := 1) (lo := 2147483696) (hi := 2147483699) (by omega) c7) xh_21_7
  by_cases c8 : ix_bz ((xσ xs).1 1) ≤ 2147483703
  · exact xlaw2 l (Nat.le_refl 6) C0 iz_S2 iz_co2 _ (hb.set (x := 1) (lo := 2147483700) (hi := 2147483703) (by omega) c8) xh_21_8
  by_cases c9 : ix_bz ((xσ xs).1 1) ≤ 2147483707
  · exact xlaw2 l (Nat.le_refl 6) C0 iz_S2 iz_co2 _ (hb.set (x := 1) (lo := 2147483704) (hi := 2147483707) (by omega) c9) xh_21_10
  by_cases c10 : ix_bz ((xσ xs).1 1) ≤ 2147483711
  · exact xlaw2 l (Nat.le_refl 6) C0 iz_S2 iz_co2 _ (hb.set (x := 1) (lo := 2147483708) (hi := 2147483711) (by omega) c10) xh_21_11
  exact xlaw2 l (Nat.le_refl 6) C0 iz_S2 iz_co2 _ (hb.set (x := 1) (lo := 2147483712) (hi := 4294967295) (by omega) (by omega)) xh_21_9
theorem xop_22 {p : Program} {e : Env} {s : State} {m : MethodId} {below : List Frame} {meth : Method} {c : Code} (l : Launch) {b : Nat} {xs : Nat → Int32} (C0 : lw_At p s m meth c b 6 xs) (h : xs 0 &&& 63 = Int32.ofNat 22) : W p l e room_1 s m #[Value.ref b] below meth c s.heap [] 0 0 (lw_Z below #[Value.ref b] s) (entryFrame m ([Value.ref b] : List Value).toArray 4) := by
  have hl := ix_bz_lt ((xσ xs).1 1)
  have hb := xib (by decide) h
  by_cases c0 : ix_bz ((xσ xs).1 1) ≤ 2147483647
  · exact xlaw2 l (Nat.le_refl 6) C0 iz_S2 iz_co2 _ (hb.set (x := 1) (lo := 0) (hi := 2147483647) (by omega) c0) xh_22_0
  by_cases c1 : ix_bz ((xσ xs).1 1) ≤ 2147483663
  · exact xlaw2 l (Nat.le_refl 6) C0 iz_S2 iz_co2 _ (hb.set (x := 1) (lo := 2147483648) (hi := 2147483663) (by omega) c1) xh_22_1
  by_cases c2 : ix_bz ((xσ xs).1 1) ≤ 2147483679
  · exact xlaw2 l (Nat.le_refl 6) C0 iz_S2 iz_co2 _ (hb.set (x := 1) (lo := 2147483664) (hi := 2147483679) (by omega) c2) xh_22_2
  by_cases c3 : ix_bz ((xσ xs).1 1) ≤ 2147483695
  · exact xlaw2 l (Nat.le_refl 6) C0 iz_S2 iz_co2 _ (hb.set (x := 1) (lo := 2147483680) (hi := 2147483695) (by omega) c3) xh_22_3
  by_cases c4 : ix_bz ((xσ xs).1 1) ≤ 2147483711
  · exact xlaw2 l (Nat.le_refl 6) C0 iz_S2 iz_co2 _ (hb.set (x := 1) (lo := 2147483696) (hi := 2147483711) (by omega) c4) xh_22_4
  exact xlaw2 l (Nat.le_refl 6) C0 iz_S2 iz_co2 _ (hb.set (x := 1) (lo := 2147483712) (hi := 4294967295) (by omega) (by omega)) xh_22_5
theorem xop_28 {p : Program} {e : Env} {s : State} {m : MethodId} {below : List Frame} {meth : Method} {c : Code} (l : Launch) {b : Nat} {xs : Nat → Int32} (C0 : lw_At p s m meth c b 6 xs) (h : xs 0 &&& 63 = Int32.ofNat 28) : W p l e room_1 s m #[Value.ref b] below meth c s.heap [] 0 0 (lw_Z below #[Value.ref b] s) (entryFrame m ([Value.ref b] : List Value).toArray 4) := by
  have hl := ix_bz_lt ((xσ xs).1 1)
  have hb := xib (by decide) h
  by_cases c0 : ix_bz ((xσ xs).1 1) ≤ 2147483648
  · exact xlaw2 l (Nat.le_refl 6) C0 iz_S4 iz_co4 _ (hb.set (x := 1) (lo := 0) (hi := 2147483648) (by omega) c0) xh_28_0
  by_cases c1 : ix_bz ((xσ xs).1 1) ≤ 2147483649
  · exact xlaw2 l (Nat.le_refl 6) C0 iz_S4 iz_co4 _ (hb.set (x := 1) (lo := 2147483649) (hi := 2147483649) (by omega) c1) xh_28_1
  by_cases c2 : ix_bz ((xσ xs).1 1) ≤ 2147483650
  · exact xlaw2 l (Nat.le_refl 6) C0 iz_S4 iz_co4 _ (hb.set (x := 1) (lo := 2147483650) (hi := 2147483650) (by omega) c2) xh_28_2
  by_cases c3 : ix_bz ((xσ xs).1 1) ≤ 2147483651
  · exact xlaw2 l (Nat.le_refl 6) C0 iz_S4 iz_co4 _ (hb.set (x := 1) (lo := 2147483651) (hi := 2147483651) (by omega) c3) xh_28_3
  by_cases c4 : ix_bz ((xσ xs).1 1) ≤ 2147483652
  · exact xlaw2 l (Nat.le_refl 6) C0 iz_S4 iz_co4 _ (hb.set (x := 1) (lo := 2147483652) (hi := 2147483652) (by omega) c4) xh_28_4
  exact xlaw2 l (Nat.le_refl 6) C0 iz_S4 iz_co4 _ (hb.set (x := 1) (lo := 2147483653) (hi := 4294967295) (by omega) (by omega)) xh_28_5
theorem xop_32 {p : Program} {e : Env} {s : State} {m : MethodId} {below : List Frame} {meth : Method} {c : Code} (l : Launch) {b : Nat} {xs : Nat → Int32} (C0 : lw_At p s m meth c b 6 xs) (h : xs 0 &&& 63 = Int32.ofNat 32) : W p l e room_1 s m #[Value.ref b] below meth c s.heap [] 0 0 (lw_Z below #[Value.ref b] s) (entryFrame m ([Value.ref b] : List Value).toArray 4) := by
  have hl := ix_bz_lt ((xσ xs).1 1)
  have hb := xib (by decide) h
  by_cases c0 : ix_bz ((xσ xs).1 1) ≤ 2147483646
  · exact xlaw2 l (Nat.le_refl 6) C0 iz_S1 iz_co1 _ (hb.set (x := 1) (lo := 0) (hi := 2147483646) (by omega) c0) xh_32_0
  by_cases c1 : ix_bz ((xσ xs).1 1) ≤ 2147483647
  · exact xlaw2 l (Nat.le_refl 6) C0 iz_S1 iz_co1 _ (hb.set (x := 1) (lo := 2147483647) (hi := 2147483647) (by omega) c1) xh_32_1
  by_cases c2 : ix_bz ((xσ xs).1 1) ≤ 2147483679
  · exact xlaw2 l (Nat.le_refl 6) C0 iz_S1 iz_co1 _ (hb.set (x := 1) (lo := 2147483648) (hi := 2147483679) (by omega) c2) xh_32_2
  by_cases c3 : ix_bz ((xσ xs).1 1) ≤ 2147483711
  · exact xlaw2 l (Nat.le_refl 6) C0 iz_S1 iz_co1 _ (hb.set (x := 1) (lo := 2147483680) (hi := 2147483711) (by omega) c3) xh_32_3
  exact xlaw2 l (Nat.le_refl 6) C0 iz_S1 iz_co1 _ (hb.set (x := 1) (lo := 2147483712) (hi := 4294967295) (by omega) (by omega)) xh_32_4
theorem xop_38 {p : Program} {e : Env} {s : State} {m : MethodId} {below : List Frame} {meth : Method} {c : Code} (l : Launch) {b : Nat} {xs : Nat → Int32} (C0 : lw_At p s m meth c b 6 xs) (h : xs 0 &&& 63 = Int32.ofNat 38) : W p l e room_1 s m #[Value.ref b] below meth c s.heap [] 0 0 (lw_Z below #[Value.ref b] s) (entryFrame m ([Value.ref b] : List Value).toArray 4) := by
  exact xlaw2 l (Nat.le_refl 6) C0 ix_none xnone _ (xib (by decide) h) xh_38_0
theorem xop_39 {p : Program} {e : Env} {s : State} {m : MethodId} {below : List Frame} {meth : Method} {c : Code} (l : Launch) {b : Nat} {xs : Nat → Int32} (C0 : lw_At p s m meth c b 6 xs) (h : xs 0 &&& 63 = Int32.ofNat 39) : W p l e room_1 s m #[Value.ref b] below meth c s.heap [] 0 0 (lw_Z below #[Value.ref b] s) (entryFrame m ([Value.ref b] : List Value).toArray 4) := by
  exact xlaw2 l (Nat.le_refl 6) C0 iz_S1 iz_co1 _ (xib (by decide) h) xh_39_0
theorem xop_41 {p : Program} {e : Env} {s : State} {m : MethodId} {below : List Frame} {meth : Method} {c : Code} (l : Launch) {b : Nat} {xs : Nat → Int32} (C0 : lw_At p s m meth c b 6 xs) (h : xs 0 &&& 63 = Int32.ofNat 41) : W p l e room_1 s m #[Value.ref b] below meth c s.heap [] 0 0 (lw_Z below #[Value.ref b] s) (entryFrame m ([Value.ref b] : List Value).toArray 4) := by
  have hl := ix_bz_lt ((xσ xs).1 1)
  have hb := xib (by decide) h
  by_cases c0 : ix_bz ((xσ xs).1 1) ≤ 2147483647
  · exact xlaw2 l (Nat.le_refl 6) C0 iz_S5 iz_co5 _ (hb.set (x := 1) (lo := 0) (hi := 2147483647) (by omega) c0) xh_41_0
  by_cases c1 : ix_bz ((xσ xs).1 1) ≤ 2147483648
  · exact xlaw2 l (Nat.le_refl 6) C0 iz_S5 iz_co5 _ (hb.set (x := 1) (lo := 2147483648) (hi := 2147483648) (by omega) c1) xh_41_1
  by_cases c2 : ix_bz ((xσ xs).1 1) ≤ 2147483649
  · exact xlaw2 l (Nat.le_refl 6) C0 iz_S5 iz_co5 _ (hb.set (x := 1) (lo := 2147483649) (hi := 2147483649) (by omega) c2) xh_41_2
  exact xlaw2 l (Nat.le_refl 6) C0 iz_S5 iz_co5 _ (hb.set (x := 1) (lo := 2147483650) (hi := 4294967295) (by omega) (by omega)) xh_41_3
theorem xop_easy {p : Program} {e : Env} {s : State} {m : MethodId} {below : List Frame} {meth : Method} {c : Code} (l : Launch) {b : Nat} {xs : Nat → Int32} (C0 : lw_At p s m meth c b 6 xs) {k : Nat} (hk : k < 64) (h : xs 0 &&& 63 = Int32.ofNat k) (hg : ix_good (ix_law ix_none 6 (ix_Bop k)) = true) : W p l e room_1 s m #[Value.ref b] below meth c s.heap [] 0 0 (lw_Z below #[Value.ref b] s) (entryFrame m ([Value.ref b] : List Value).toArray 4) := xlaw l (Nat.le_refl 6) C0 ix_none xnone _ (xib hk h) hg
theorem xop_all {p : Program} {e : Env} {s : State} {m : MethodId} {below : List Frame} {meth : Method} {c : Code} (l : Launch) {b : Nat} {xs : Nat → Int32} (C0 : lw_At p s m meth c b 6 xs) : W p l e room_1 s m #[Value.ref b] below meth c s.heap [] 0 0 (lw_Z below #[Value.ref b] s) (entryFrame m ([Value.ref b] : List Value).toArray 4) := by
  obtain ⟨k, hk, h⟩ : ∃ k, k < 64 ∧ xs 0 &&& 63 = Int32.ofNat k := ⟨(xs 0 &&& 63).toBitVec.toNat, Nat.lt_of_le_of_lt (by show ((xs 0).toBitVec &&& (63 : Int32).toBitVec).toNat ≤ 63; rw [BitVec.toNat_and]; exact Nat.and_le_right) (by decide), (ix_bk _).symm⟩
  match k, hk, h with
  | 0, hk, h => exact xop_easy l C0 hk h xg_0
  | 1, hk, h => exact xop_easy l C0 hk h xg_1
  | 2, hk, h => exact xop_easy l C0 hk h xg_2
  | 3, hk, h => exact xop_easy l C0 hk h xg_3
  | 4, hk, h => exact xop_easy l C0 hk h xg_4
  | 5, hk, h => exact xop_easy l C0 hk h xg_5
  | 6, hk, h => exact xop_easy l C0 hk h xg_6
  | 7, hk, h => exact xop_easy l C0 hk h xg_7
  | 8, hk, h => exact xop_easy l C0 hk h xg_8
  | 9, hk, h => exact xop_easy l C0 hk h xg_9
  | 10, hk, h => exact xop_easy l C0 hk h xg_10
  | 11, hk, h => exact xop_easy l C0 hk h xg_11
  | 12, hk, h => exact xop_easy l C0 hk h xg_12
  | 13, hk, h => exact xop_easy l C0 hk h xg_13
  | 14, hk, h => exact xop_easy l C0 hk h xg_14
  | 15, hk, h => exact xop_easy l C0 hk h xg_15
  | 16, hk, h => exact xop_easy l C0 hk h xg_16
  | 17, hk, h => exact xop_easy l C0 hk h xg_17
  | 18, hk, h => exact xop_easy l C0 hk h xg_18
  | 19, hk, h => exact xop_easy l C0 hk h xg_19
  | 20, _, h => exact xop_20 l C0 h
  | 21, _, h => exact xop_21 l C0 h
  | 22, _, h => exact xop_22 l C0 h
  | 23, hk, h => exact xop_easy l C0 hk h xg_23
  | 24, hk, h => exact xop_easy l C0 hk h xg_24
  | 25, hk, h => exact xop_easy l C0 hk h xg_25
  | 26, hk, h => exact xop_easy l C0 hk h xg_26
  | 27, hk, h => exact xop_easy l C0 hk h xg_27
  | 28, _, h => exact xop_28 l C0 h
  | 29, hk, h => exact xop_easy l C0 hk h xg_29
  | 30, hk, h => exact xop_easy l C0 hk h xg_30
  | 31, hk, h => exact xop_easy l C0 hk h xg_31
  | 32, _, h => exact xop_32 l C0 h
  | 33, hk, h => exact xop_easy l C0 hk h xg_33
  | 34, hk, h => exact xop_easy l C0 hk h xg_34
  | 35, hk, h => exact xop_easy l C0 hk h xg_35
  | 36, hk, h => exact xop_easy l C0 hk h xg_36
  | 37, hk, h => exact xop_easy l C0 hk h xg_37
  | 38, _, h => exact xop_38 l C0 h
  | 39, _, h => exact xop_39 l C0 h
  | 40, hk, h => exact xop_easy l C0 hk h xg_40
  | 41, _, h => exact xop_41 l C0 h
  | 42, hk, h => exact xop_easy l C0 hk h xg_42
  | 43, hk, h => exact xop_easy l C0 hk h xg_43
  | 44, hk, h => exact xop_easy l C0 hk h xg_44
  | k + 45, hk, h => exact xlaw l (Nat.le_refl 6) C0 ix_none xnone _ (xib_rest (by omega) hk h) xg_rest
/-- from the entry, for every script of at most 6 ints, the law comes to its end with true -/
theorem whole_start {p : Program} {e : Env} {s : State} {m : MethodId} {below : List Frame} {meth : Method} {c : Code} (l : Launch) (hflags : l.flags = flags0) {b L : Nat} {xs : Nat → Int32} (hL : L ≤ 6) (C0 : lw_At p s m meth c b L xs) : W p l e room_1 s m #[Value.ref b] below meth c s.heap [] 0 0 (lw_Z below #[Value.ref b] s) (entryFrame m ([Value.ref b] : List Value).toArray 4) := by
  match L, hL, C0 with
  | 0, hL, C0 => exact xlaw l hL C0 ix_none xnone _ xib_full xgL_0
  | 1, hL, C0 => exact xlaw l hL C0 ix_none xnone _ xib_full xgL_1
  | 2, hL, C0 => exact xlaw l hL C0 ix_none xnone _ xib_full xgL_2
  | 3, hL, C0 => exact xlaw l hL C0 ix_none xnone _ xib_full xgL_3
  | 4, hL, C0 => exact xlaw l hL C0 ix_none xnone _ xib_full xgL_4
  | 5, hL, C0 => exact xlaw l hL C0 ix_none xnone _ xib_full xgL_5
  | 6, hL, C0 => exact xop_all l C0
  | L + 7, hL, _ => omega
