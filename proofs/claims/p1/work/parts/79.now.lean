/-! for now: to try what is behind -/
theorem ix_ff {σ : ix_Sg} (n : Nat) : ix_ib σ (List.replicate n ix_full) := by
  intro x lo hi hx
  have hm : (lo, hi) = ix_full := List.eq_of_mem_replicate (List.mem_of_getElem? hx)
  have hl := ix_bz_lt (σ.1 x)
  have h1 : lo = 0 := congrArg Prod.fst hm
  have h2 : hi = 4294967295 := congrArg Prod.snd hm
  exact ⟨by omega, by omega⟩
noncomputable def iz_S4 : Nat → ix_Call := ix_none
theorem iz_co4 {l : Launch} : ∀ d, ix_CO l xTs xcl (ix_O0 6) xsl xJ (d + 1) (iz_S4 d) := xnone
theorem xh_28_0 : ix_good (iz_law iz_S4 6 ((ix_Bop 28).set 1 (0, 2147483648))) = true := sorry
theorem xh_28_1 : ix_good (iz_law iz_S4 6 ((ix_Bop 28).set 1 (2147483649, 2147483649))) = true := sorry
theorem xh_28_2 : ix_good (iz_law iz_S4 6 ((ix_Bop 28).set 1 (2147483650, 2147483650))) = true := sorry
theorem xh_28_3 : ix_good (iz_law iz_S4 6 ((ix_Bop 28).set 1 (2147483651, 2147483651))) = true := sorry
theorem xh_28_4 : ix_good (iz_law iz_S4 6 ((ix_Bop 28).set 1 (2147483652, 2147483652))) = true := sorry
theorem xh_28_5 : ix_good (iz_law iz_S4 6 ((ix_Bop 28).set 1 (2147483653, 4294967295))) = true := sorry
theorem xh_22_0 : ix_good (iz_law iz_S2 6 ((ix_Bop 22).set 1 (0, 2147483647))) = true := sorry
theorem xh_22_1 : ix_good (iz_law iz_S2 6 ((ix_Bop 22).set 1 (2147483648, 2147483663))) = true := sorry
theorem xh_22_2 : ix_good (iz_law iz_S2 6 ((ix_Bop 22).set 1 (2147483664, 2147483679))) = true := sorry
theorem xh_22_3 : ix_good (iz_law iz_S2 6 ((ix_Bop 22).set 1 (2147483680, 2147483695))) = true := sorry
theorem xh_22_4 : ix_good (iz_law iz_S2 6 ((ix_Bop 22).set 1 (2147483696, 2147483711))) = true := sorry
theorem xh_22_5 : ix_good (iz_law iz_S2 6 ((ix_Bop 22).set 1 (2147483712, 4294967295))) = true := sorry
theorem xh_32_0 : ix_good (iz_law iz_S1 6 ((ix_Bop 32).set 1 (0, 2147483646))) = true := sorry
theorem xh_32_1 : ix_good (iz_law iz_S1 6 ((ix_Bop 32).set 1 (2147483647, 2147483647))) = true := sorry
theorem xh_32_2 : ix_good (iz_law iz_S1 6 ((ix_Bop 32).set 1 (2147483648, 2147483679))) = true := sorry
theorem xh_32_3 : ix_good (iz_law iz_S1 6 ((ix_Bop 32).set 1 (2147483680, 2147483711))) = true := sorry
theorem xh_32_4 : ix_good (iz_law iz_S1 6 ((ix_Bop 32).set 1 (2147483712, 4294967295))) = true := sorry
theorem xh_39_0 : ix_good (iz_law iz_S1 6 (ix_Bop 39)) = true := sorry
theorem xh_38_0 : ix_good (iz_law ix_none 6 (ix_Bop 38)) = true := sorry
theorem xh_41_0 : ix_good (iz_law ix_none 6 ((ix_Bop 41).set 1 (0, 2147483647))) = true := sorry
theorem xh_41_1 : ix_good (iz_law ix_none 6 ((ix_Bop 41).set 1 (2147483648, 2147483648))) = true := sorry
theorem xh_41_2 : ix_good (iz_law ix_none 6 ((ix_Bop 41).set 1 (2147483649, 2147483649))) = true := sorry
theorem xh_41_3 : ix_good (iz_law ix_none 6 ((ix_Bop 41).set 1 (2147483650, 4294967295))) = true := sorry
theorem xh_21_0 : ix_good (iz_law iz_S2 6 ((ix_Bop 21).set 1 (0, 2147483647))) = true := sorry
theorem xh_21_9 : ix_good (iz_law iz_S2 6 ((ix_Bop 21).set 1 (2147483712, 4294967295))) = true := sorry
theorem xh_21_1 : ix_good (iz_law iz_S2 6 ((ix_Bop 21).set 1 (2147483648, 2147483655))) = true := sorry
theorem xh_21_2 : ix_good (iz_law iz_S2 6 ((ix_Bop 21).set 1 (2147483656, 2147483663))) = true := sorry
theorem xh_21_3 : ix_good (iz_law iz_S2 6 ((ix_Bop 21).set 1 (2147483664, 2147483671))) = true := sorry
theorem xh_21_4 : ix_good (iz_law iz_S2 6 ((ix_Bop 21).set 1 (2147483672, 2147483679))) = true := sorry
theorem xh_21_5 : ix_good (iz_law iz_S2 6 ((ix_Bop 21).set 1 (2147483680, 2147483687))) = true := sorry
theorem xh_21_6 : ix_good (iz_law iz_S2 6 ((ix_Bop 21).set 1 (2147483688, 2147483695))) = true := sorry
theorem xh_21_7 : ix_good (iz_law iz_S2 6 ((ix_Bop 21).set 1 (2147483696, 2147483703))) = true := sorry
theorem xh_21_8 : ix_good (iz_law iz_S2 6 ((ix_Bop 21).set 1 (2147483704, 2147483711))) = true := sorry
theorem xh_20_0 : ix_good (iz_law iz_S1 6 ((ix_Bop 20).set 1 (0, 2147483647))) = true := sorry
theorem xh_20_65 : ix_good (iz_law iz_S1 6 ((ix_Bop 20).set 1 (2147483712, 4294967295))) = true := sorry
theorem xh_20_1 : ix_good (iz_law iz_S1 6 ((ix_Bop 20).set 1 (2147483648, 2147483648))) = true := sorry
theorem xh_20_2 : ix_good (iz_law iz_S1 6 ((ix_Bop 20).set 1 (2147483649, 2147483649))) = true := sorry
theorem xh_20_3 : ix_good (iz_law iz_S1 6 ((ix_Bop 20).set 1 (2147483650, 2147483650))) = true := sorry
theorem xh_20_4 : ix_good (iz_law iz_S1 6 ((ix_Bop 20).set 1 (2147483651, 2147483651))) = true := sorry
theorem xh_20_5 : ix_good (iz_law iz_S1 6 ((ix_Bop 20).set 1 (2147483652, 2147483652))) = true := sorry
theorem xh_20_6 : ix_good (iz_law iz_S1 6 ((ix_Bop 20).set 1 (2147483653, 2147483653))) = true := sorry
theorem xh_20_7 : ix_good (iz_law iz_S1 6 ((ix_Bop 20).set 1 (2147483654, 2147483654))) = true := sorry
theorem xh_20_8 : ix_good (iz_law iz_S1 6 ((ix_Bop 20).set 1 (2147483655, 2147483655))) = true := sorry
theorem xh_20_9 : ix_good (iz_law iz_S1 6 ((ix_Bop 20).set 1 (2147483656, 2147483656))) = true := sorry
theorem xh_20_10 : ix_good (iz_law iz_S1 6 ((ix_Bop 20).set 1 (2147483657, 2147483657))) = true := sorry
theorem xh_20_11 : ix_good (iz_law iz_S1 6 ((ix_Bop 20).set 1 (2147483658, 2147483658))) = true := sorry
theorem xh_20_12 : ix_good (iz_law iz_S1 6 ((ix_Bop 20).set 1 (2147483659, 2147483659))) = true := sorry
theorem xh_20_13 : ix_good (iz_law iz_S1 6 ((ix_Bop 20).set 1 (2147483660, 2147483660))) = true := sorry
theorem xh_20_14 : ix_good (iz_law iz_S1 6 ((ix_Bop 20).set 1 (2147483661, 2147483661))) = true := sorry
theorem xh_20_15 : ix_good (iz_law iz_S1 6 ((ix_Bop 20).set 1 (2147483662, 2147483662))) = true := sorry
theorem xh_20_16 : ix_good (iz_law iz_S1 6 ((ix_Bop 20).set 1 (2147483663, 2147483663))) = true := sorry
theorem xh_20_17 : ix_good (iz_law iz_S1 6 ((ix_Bop 20).set 1 (2147483664, 2147483664))) = true := sorry
theorem xh_20_18 : ix_good (iz_law iz_S1 6 ((ix_Bop 20).set 1 (2147483665, 2147483665))) = true := sorry
theorem xh_20_19 : ix_good (iz_law iz_S1 6 ((ix_Bop 20).set 1 (2147483666, 2147483666))) = true := sorry
theorem xh_20_20 : ix_good (iz_law iz_S1 6 ((ix_Bop 20).set 1 (2147483667, 2147483667))) = true := sorry
theorem xh_20_21 : ix_good (iz_law iz_S1 6 ((ix_Bop 20).set 1 (2147483668, 2147483668))) = true := sorry
theorem xh_20_22 : ix_good (iz_law iz_S1 6 ((ix_Bop 20).set 1 (2147483669, 2147483669))) = true := sorry
theorem xh_20_23 : ix_good (iz_law iz_S1 6 ((ix_Bop 20).set 1 (2147483670, 2147483670))) = true := sorry
theorem xh_20_24 : ix_good (iz_law iz_S1 6 ((ix_Bop 20).set 1 (2147483671, 2147483671))) = true := sorry
theorem xh_20_25 : ix_good (iz_law iz_S1 6 ((ix_Bop 20).set 1 (2147483672, 2147483672))) = true := sorry
theorem xh_20_26 : ix_good (iz_law iz_S1 6 ((ix_Bop 20).set 1 (2147483673, 2147483673))) = true := sorry
theorem xh_20_27 : ix_good (iz_law iz_S1 6 ((ix_Bop 20).set 1 (2147483674, 2147483674))) = true := sorry
theorem xh_20_28 : ix_good (iz_law iz_S1 6 ((ix_Bop 20).set 1 (2147483675, 2147483675))) = true := sorry
theorem xh_20_29 : ix_good (iz_law iz_S1 6 ((ix_Bop 20).set 1 (2147483676, 2147483676))) = true := sorry
theorem xh_20_30 : ix_good (iz_law iz_S1 6 ((ix_Bop 20).set 1 (2147483677, 2147483677))) = true := sorry
theorem xh_20_31 : ix_good (iz_law iz_S1 6 ((ix_Bop 20).set 1 (2147483678, 2147483678))) = true := sorry
theorem xh_20_32 : ix_good (iz_law iz_S1 6 ((ix_Bop 20).set 1 (2147483679, 2147483679))) = true := sorry
theorem xh_20_33 : ix_good (iz_law iz_S1 6 ((ix_Bop 20).set 1 (2147483680, 2147483680))) = true := sorry
theorem xh_20_34 : ix_good (iz_law iz_S1 6 ((ix_Bop 20).set 1 (2147483681, 2147483681))) = true := sorry
theorem xh_20_35 : ix_good (iz_law iz_S1 6 ((ix_Bop 20).set 1 (2147483682, 2147483682))) = true := sorry
theorem xh_20_36 : ix_good (iz_law iz_S1 6 ((ix_Bop 20).set 1 (2147483683, 2147483683))) = true := sorry
theorem xh_20_37 : ix_good (iz_law iz_S1 6 ((ix_Bop 20).set 1 (2147483684, 2147483684))) = true := sorry
theorem xh_20_38 : ix_good (iz_law iz_S1 6 ((ix_Bop 20).set 1 (2147483685, 2147483685))) = true := sorry
theorem xh_20_39 : ix_good (iz_law iz_S1 6 ((ix_Bop 20).set 1 (2147483686, 2147483686))) = true := sorry
theorem xh_20_40 : ix_good (iz_law iz_S1 6 ((ix_Bop 20).set 1 (2147483687, 2147483687))) = true := sorry
theorem xh_20_41 : ix_good (iz_law iz_S1 6 ((ix_Bop 20).set 1 (2147483688, 2147483688))) = true := sorry
theorem xh_20_42 : ix_good (iz_law iz_S1 6 ((ix_Bop 20).set 1 (2147483689, 2147483689))) = true := sorry
theorem xh_20_43 : ix_good (iz_law iz_S1 6 ((ix_Bop 20).set 1 (2147483690, 2147483690))) = true := sorry
theorem xh_20_44 : ix_good (iz_law iz_S1 6 ((ix_Bop 20).set 1 (2147483691, 2147483691))) = true := sorry
theorem xh_20_45 : ix_good (iz_law iz_S1 6 ((ix_Bop 20).set 1 (2147483692, 2147483692))) = true := sorry
theorem xh_20_46 : ix_good (iz_law iz_S1 6 ((ix_Bop 20).set 1 (2147483693, 2147483693))) = true := sorry
theorem xh_20_47 : ix_good (iz_law iz_S1 6 ((ix_Bop 20).set 1 (2147483694, 2147483694))) = true := sorry
theorem xh_20_48 : ix_good (iz_law iz_S1 6 ((ix_Bop 20).set 1 (2147483695, 2147483695))) = true := sorry
theorem xh_20_49 : ix_good (iz_law iz_S1 6 ((ix_Bop 20).set 1 (2147483696, 2147483696))) = true := sorry
theorem xh_20_50 : ix_good (iz_law iz_S1 6 ((ix_Bop 20).set 1 (2147483697, 2147483697))) = true := sorry
theorem xh_20_51 : ix_good (iz_law iz_S1 6 ((ix_Bop 20).set 1 (2147483698, 2147483698))) = true := sorry
theorem xh_20_52 : ix_good (iz_law iz_S1 6 ((ix_Bop 20).set 1 (2147483699, 2147483699))) = true := sorry
theorem xh_20_53 : ix_good (iz_law iz_S1 6 ((ix_Bop 20).set 1 (2147483700, 2147483700))) = true := sorry
theorem xh_20_54 : ix_good (iz_law iz_S1 6 ((ix_Bop 20).set 1 (2147483701, 2147483701))) = true := sorry
theorem xh_20_55 : ix_good (iz_law iz_S1 6 ((ix_Bop 20).set 1 (2147483702, 2147483702))) = true := sorry
theorem xh_20_56 : ix_good (iz_law iz_S1 6 ((ix_Bop 20).set 1 (2147483703, 2147483703))) = true := sorry
theorem xh_20_57 : ix_good (iz_law iz_S1 6 ((ix_Bop 20).set 1 (2147483704, 2147483704))) = true := sorry
theorem xh_20_58 : ix_good (iz_law iz_S1 6 ((ix_Bop 20).set 1 (2147483705, 2147483705))) = true := sorry
theorem xh_20_59 : ix_good (iz_law iz_S1 6 ((ix_Bop 20).set 1 (2147483706, 2147483706))) = true := sorry
theorem xh_20_60 : ix_good (iz_law iz_S1 6 ((ix_Bop 20).set 1 (2147483707, 2147483707))) = true := sorry
theorem xh_20_61 : ix_good (iz_law iz_S1 6 ((ix_Bop 20).set 1 (2147483708, 2147483708))) = true := sorry
theorem xh_20_62 : ix_good (iz_law iz_S1 6 ((ix_Bop 20).set 1 (2147483709, 2147483709))) = true := sorry
theorem xh_20_63 : ix_good (iz_law iz_S1 6 ((ix_Bop 20).set 1 (2147483710, 2147483710))) = true := sorry
theorem xh_20_64 : ix_good (iz_law iz_S1 6 ((ix_Bop 20).set 1 (2147483711, 2147483711))) = true := sorry
