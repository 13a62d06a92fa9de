/-! constants and words, by their places -/
theorem xc_b_10 : (Int8.ofInt (10)).toInt32 = Int32.ofNat 10 := by decide +kernel
theorem xc_b_12 : (Int8.ofInt (12)).toInt32 = Int32.ofNat 12 := by decide +kernel
theorem xc_b_6 : (Int8.ofInt (6)).toInt32 = Int32.ofNat 6 := by decide +kernel
theorem xc_b_64 : (Int8.ofInt (64)).toInt32 = Int32.ofNat 64 := by decide +kernel
theorem xc_b_8 : (Int8.ofInt (8)).toInt32 = Int32.ofNat 8 := by decide +kernel
theorem xc_b_m3 : (Int8.ofInt (-3)).toInt32 = Int32.ofNat 4294967293 := by decide +kernel
theorem xc_i_0 : Int32.ofInt (0) = Int32.ofNat 0 := by decide +kernel
theorem xc_i_1 : Int32.ofInt (1) = Int32.ofNat 1 := by decide +kernel
theorem xc_i_2 : Int32.ofInt (2) = Int32.ofNat 2 := by decide +kernel
theorem xc_i_3 : Int32.ofInt (3) = Int32.ofNat 3 := by decide +kernel
theorem xc_i_4 : Int32.ofInt (4) = Int32.ofNat 4 := by decide +kernel
theorem xc_i_m1 : Int32.ofInt (-1) = Int32.ofNat 4294967295 := by decide +kernel
theorem xv_0 : 0 < 4294967296 := by decide
theorem xv_1 : 1 < 4294967296 := by decide
theorem xv_2 : 2 < 4294967296 := by decide
theorem xv_3 : 3 < 4294967296 := by decide
theorem xv_4 : 4 < 4294967296 := by decide
theorem xv_6 : 6 < 4294967296 := by decide
theorem xv_8 : 8 < 4294967296 := by decide
theorem xv_10 : 10 < 4294967296 := by decide
theorem xv_12 : 12 < 4294967296 := by decide
theorem xv_64 : 64 < 4294967296 := by decide
theorem xv_4294967293 : 4294967293 < 4294967296 := by decide
theorem xv_4294967295 : 4294967295 < 4294967296 := by decide
theorem xl_c_MirrorHeirs_Hall_18 : Cond.classLink "MirrorHeirs$Hall" 18 "MirrorHeirs$Rows" ∈ xTs := ix_gd (List.mem_of_getElem? (i := 157) (by decide +kernel)) rfl
theorem xl_c_MirrorHeirs_Hall_42 : Cond.classLink "MirrorHeirs$Hall" 42 "MirrorHeirs$Text" ∈ xTs := ix_gd (List.mem_of_getElem? (i := 188) (by decide +kernel)) rfl
theorem xl_f_MirrorHeirs_22 : Cond.fieldLink "MirrorHeirs" 22 "MirrorHeirs" "hall" "LMirrorHeirs$Hall;" ∈ xTs := ix_gd (List.mem_of_getElem? (i := 576) (by decide +kernel)) rfl
theorem xl_f_MirrorHeirs_82 : Cond.fieldLink "MirrorHeirs" 82 "MirrorHeirs" "deeds" "LMirrorHeirs$Deeds;" ∈ xTs := ix_gd (List.mem_of_getElem? (i := 586) (by decide +kernel)) rfl
theorem xl_f_MirrorHeirs_Hall_15 : Cond.fieldLink "MirrorHeirs$Hall" 15 "MirrorHeirs$Hall" "termValues" "[I" ∈ xTs := ix_gd (List.mem_of_getElem? (i := 191) (by decide +kernel)) rfl
theorem xl_f_MirrorHeirs_Hall_23 : Cond.fieldLink "MirrorHeirs$Hall" 23 "MirrorHeirs$Hall" "pivots" "LMirrorHeirs$Rows;" ∈ xTs := ix_gd (List.mem_of_getElem? (i := 192) (by decide +kernel)) rfl
theorem xl_f_MirrorHeirs_Hall_27 : Cond.fieldLink "MirrorHeirs$Hall" 27 "MirrorHeirs$Hall" "heirs" "LMirrorHeirs$Rows;" ∈ xTs := ix_gd (List.mem_of_getElem? (i := 197) (by decide +kernel)) rfl
theorem xl_f_MirrorHeirs_Hall_30 : Cond.fieldLink "MirrorHeirs$Hall" 30 "MirrorHeirs$Hall" "things" "LMirrorHeirs$Rows;" ∈ xTs := ix_gd (List.mem_of_getElem? (i := 203) (by decide +kernel)) rfl
theorem xl_f_MirrorHeirs_Hall_33 : Cond.fieldLink "MirrorHeirs$Hall" 33 "MirrorHeirs$Hall" "candles" "LMirrorHeirs$Rows;" ∈ xTs := ix_gd (List.mem_of_getElem? (i := 208) (by decide +kernel)) rfl
theorem xl_f_MirrorHeirs_Hall_36 : Cond.fieldLink "MirrorHeirs$Hall" 36 "MirrorHeirs$Hall" "tellings" "LMirrorHeirs$Rows;" ∈ xTs := ix_gd (List.mem_of_getElem? (i := 213) (by decide +kernel)) rfl
theorem xl_f_MirrorHeirs_Hall_39 : Cond.fieldLink "MirrorHeirs$Hall" 39 "MirrorHeirs$Hall" "hints" "LMirrorHeirs$Rows;" ∈ xTs := ix_gd (List.mem_of_getElem? (i := 216) (by decide +kernel)) rfl
theorem xl_f_MirrorHeirs_Hall_44 : Cond.fieldLink "MirrorHeirs$Hall" 44 "MirrorHeirs$Hall" "laws" "[LMirrorHeirs$Text;" ∈ xTs := ix_gd (List.mem_of_getElem? (i := 219) (by decide +kernel)) rfl
theorem xl_f_MirrorHeirs_Hall_48 : Cond.fieldLink "MirrorHeirs$Hall" 48 "MirrorHeirs$Hall" "lawCount" "I" ∈ xTs := ix_gd (List.mem_of_getElem? (i := 220) (by decide +kernel)) rfl
theorem xl_f_MirrorHeirs_Hall_52 : Cond.fieldLink "MirrorHeirs$Hall" 52 "MirrorHeirs$Hall" "inForce" "I" ∈ xTs := ix_gd (List.mem_of_getElem? (i := 222) (by decide +kernel)) rfl
theorem xl_f_MirrorHeirs_Hall_9 : Cond.fieldLink "MirrorHeirs$Hall" 9 "MirrorHeirs$Hall" "kinds" "[I" ∈ xTs := ix_gd (List.mem_of_getElem? (i := 190) (by decide +kernel)) rfl
theorem xl_f_MirrorHeirs_Rows_15 : Cond.fieldLink "MirrorHeirs$Rows" 15 "MirrorHeirs$Rows" "width" "I" ∈ xTs := ix_gd (List.mem_of_getElem? (i := 167) (by decide +kernel)) rfl
theorem xl_f_MirrorHeirs_Rows_24 : Cond.fieldLink "MirrorHeirs$Rows" 24 "MirrorHeirs$Rows" "numbers" "[I" ∈ xTs := ix_gd (List.mem_of_getElem? (i := 166) (by decide +kernel)) rfl
theorem xl_f_MirrorHeirs_Rows_28 : Cond.fieldLink "MirrorHeirs$Rows" 28 "MirrorHeirs$Rows" "size" "I" ∈ xTs := ix_gd (List.mem_of_getElem? (i := 169) (by decide +kernel)) rfl
theorem xl_f_MirrorHeirs_Rows_9 : Cond.fieldLink "MirrorHeirs$Rows" 9 "MirrorHeirs$Rows" "most" "I" ∈ xTs := ix_gd (List.mem_of_getElem? (i := 168) (by decide +kernel)) rfl
theorem xl_m_MirrorHeirs_103 : Cond.methodLink "MirrorHeirs" 103 ⟨"MirrorHeirs", "isKind", "(I)Z"⟩ ∈ xTs := ix_gd (List.mem_of_getElem? (i := 629) (by decide +kernel)) rfl
theorem xl_m_MirrorHeirs_106 : Cond.methodLink "MirrorHeirs" 106 ⟨"MirrorHeirs", "refused", "(I)I"⟩ ∈ xTs := ix_gd (List.mem_of_getElem? (i := 632) (by decide +kernel)) rfl
theorem xl_m_MirrorHeirs_110 : Cond.methodLink "MirrorHeirs" 110 ⟨"MirrorHeirs$Hall", "mayLay", "(II)Z"⟩ ∈ xTs := ix_gd (List.mem_of_getElem? (i := 636) (by decide +kernel)) rfl
theorem xl_m_MirrorHeirs_114 : Cond.methodLink "MirrorHeirs" 114 ⟨"MirrorHeirs$Hall", "kindAt", "(I)I"⟩ ∈ xTs := ix_gd (List.mem_of_getElem? (i := 648) (by decide +kernel)) rfl
theorem xl_m_MirrorHeirs_117 : Cond.methodLink "MirrorHeirs" 117 ⟨"MirrorHeirs$Hall", "lay", "(II)V"⟩ ∈ xTs := ix_gd (List.mem_of_getElem? (i := 652) (by decide +kernel)) rfl
theorem xl_m_MirrorHeirs_121 : Cond.methodLink "MirrorHeirs" 121 ⟨"MirrorHeirs$Deeds", "forgetAll", "()V"⟩ ∈ xTs := ix_gd (List.mem_of_getElem? (i := 668) (by decide +kernel)) rfl
theorem xl_m_MirrorHeirs_124 : Cond.methodLink "MirrorHeirs" 124 ⟨"MirrorHeirs", "granted", "(I)I"⟩ ∈ xTs := ix_gd (List.mem_of_getElem? (i := 676) (by decide +kernel)) rfl
theorem xl_m_MirrorHeirs_99 : Cond.methodLink "MirrorHeirs" 99 ⟨"MirrorHeirs", "isCell", "(I)Z"⟩ ∈ xTs := ix_gd (List.mem_of_getElem? (i := 626) (by decide +kernel)) rfl
theorem xl_m_MirrorHeirs_Hall_20 : Cond.methodLink "MirrorHeirs$Hall" 20 ⟨"MirrorHeirs$Rows", "<init>", "(II)V"⟩ ∈ xTs := ix_gd (List.mem_of_getElem? (i := 159) (by decide +kernel)) rfl
theorem xl_m_MirrorHeirs_Hall_3 : Cond.methodLink "MirrorHeirs$Hall" 3 objectInit ∈ xTs := ix_gd (List.mem_of_getElem? (i := 156) (by decide +kernel)) rfl
theorem xl_m_MirrorHeirs_Rows_18 : Cond.methodLink "MirrorHeirs$Rows" 18 ⟨"java/lang/Math", "max", "(II)I"⟩ ∈ xTs := ix_gd (List.mem_of_getElem? (i := 163) (by decide +kernel)) rfl
theorem xl_m_MirrorHeirs_Rows_3 : Cond.methodLink "MirrorHeirs$Rows" 3 objectInit ∈ xTs := ix_gd (List.mem_of_getElem? (i := 162) (by decide +kernel)) rfl
theorem xl_m_MirrorHeirs_Rows_31 : Cond.methodLink "MirrorHeirs$Rows" 31 ⟨"MirrorHeirs$Rows", "set", "(III)V"⟩ ∈ xTs := ix_gd (List.mem_of_getElem? (i := 699) (by decide +kernel)) rfl
theorem xl_m_MirrorHeirs_Rows_39 : Cond.methodLink "MirrorHeirs$Rows" 39 ⟨"MirrorHeirs$Rows", "get", "(II)I"⟩ ∈ xTs := ix_gd (List.mem_of_getElem? (i := 644) (by decide +kernel)) rfl
theorem xo_inst : Cond.instanceMethod objectInit ∈ xTs := ix_gd (List.mem_of_getElem? (i := 149) (by decide +kernel)) rfl
theorem xo_code : Cond.code objectInit ⟨#[0xb1]⟩ 1 none ∈ xTs := ix_gd (List.mem_of_getElem? (i := 150) (by decide +kernel)) rfl
theorem xr_int : Cond.arrayClass .int ∈ xTs := ix_gd (List.mem_of_getElem? (i := 187) (by decide +kernel)) rfl
theorem xr_byte : Cond.arrayClass .byte ∈ xTs := ix_gd (List.mem_of_getElem? (i := 1013) (by decide +kernel)) rfl
theorem xr_boolean : Cond.arrayClass .boolean ∈ xTs := ix_gd (List.mem_of_getElem? (i := 1710) (by decide +kernel)) rfl
theorem xr_long : Cond.arrayClass .long ∈ xTs := ix_gd (List.mem_of_getElem? (i := 343) (by decide +kernel)) rfl
theorem xa_0 : Cond.instantiable xR0 7 ∈ xTs := ix_gd (List.mem_of_getElem? (i := 541) (by decide +kernel)) rfl
theorem xb_0 : Cond.initialized xR0 ∈ xTs := ix_gd (List.mem_of_getElem? (i := 135) (by decide +kernel)) rfl
theorem xg0 : ∀ j, j < 7 → ix_dv (ix_g ix_f0 j) (xt0 j) = true := by decide +kernel
theorem xa_1 : Cond.instantiable xR1 11 ∈ xTs := ix_gd (List.mem_of_getElem? (i := 152) (by decide +kernel)) rfl
theorem xb_1 : Cond.initialized xR1 ∈ xTs := ix_gd (List.mem_of_getElem? (i := 123) (by decide +kernel)) rfl
theorem xg1 : ∀ j, j < 11 → ix_dv (ix_g ix_f1 j) (xt1 j) = true := by decide +kernel
theorem xa_2 : Cond.instantiable xR2 10 ∈ xTs := ix_gd (List.mem_of_getElem? (i := 481) (by decide +kernel)) rfl
theorem xb_2 : Cond.initialized xR2 ∈ xTs := ix_gd (List.mem_of_getElem? (i := 133) (by decide +kernel)) rfl
theorem xg2 : ∀ j, j < 10 → ix_dv (ix_g ix_f2 j) (xt2 j) = true := by decide +kernel
theorem xa_3 : Cond.instantiable xR3 12 ∈ xTs := ix_gd (List.mem_of_getElem? (i := 346) (by decide +kernel)) rfl
theorem xb_3 : Cond.initialized xR3 ∈ xTs := ix_gd (List.mem_of_getElem? (i := 130) (by decide +kernel)) rfl
theorem xg3 : ∀ j, j < 12 → ix_dv (ix_g ix_f3 j) (xt3 j) = true := by decide +kernel
theorem xa_4 : Cond.instantiable xR4 4 ∈ xTs := ix_gd (List.mem_of_getElem? (i := 158) (by decide +kernel)) rfl
theorem xb_4 : Cond.initialized xR4 ∈ xTs := ix_gd (List.mem_of_getElem? (i := 124) (by decide +kernel)) rfl
theorem xg4 : ∀ j, j < 4 → ix_dv (ix_g ix_f4 j) (xt4 j) = true := by decide +kernel
theorem xa_5 : Cond.instantiable xR5 13 ∈ xTs := ix_gd (List.mem_of_getElem? (i := 431) (by decide +kernel)) rfl
theorem xb_5 : Cond.initialized xR5 ∈ xTs := ix_gd (List.mem_of_getElem? (i := 132) (by decide +kernel)) rfl
theorem xg5 : ∀ j, j < 13 → ix_dv (ix_g ix_f5 j) (xt5 j) = true := by decide +kernel
theorem xa_6 : Cond.instantiable xR6 8 ∈ xTs := ix_gd (List.mem_of_getElem? (i := 309) (by decide +kernel)) rfl
theorem xb_6 : Cond.initialized xR6 ∈ xTs := ix_gd (List.mem_of_getElem? (i := 129) (by decide +kernel)) rfl
theorem xg6 : ∀ j, j < 8 → ix_dv (ix_g ix_f6 j) (xt6 j) = true := by decide +kernel
theorem xa_7 : Cond.instantiable xR7 12 ∈ xTs := ix_gd (List.mem_of_getElem? (i := 248) (by decide +kernel)) rfl
theorem xb_7 : Cond.initialized xR7 ∈ xTs := ix_gd (List.mem_of_getElem? (i := 126) (by decide +kernel)) rfl
theorem xg7 : ∀ j, j < 12 → ix_dv (ix_g ix_f7 j) (xt7 j) = true := by decide +kernel
theorem xa_8 : Cond.instantiable xR8 2 ∈ xTs := ix_gd (List.mem_of_getElem? (i := 254) (by decide +kernel)) rfl
theorem xb_8 : Cond.initialized xR8 ∈ xTs := ix_gd (List.mem_of_getElem? (i := 127) (by decide +kernel)) rfl
theorem xg8 : ∀ j, j < 2 → ix_dv (ix_g ix_f8 j) (xt8 j) = true := by decide +kernel
theorem xa_9 : Cond.instantiable xR9 6 ∈ xTs := ix_gd (List.mem_of_getElem? (i := 352) (by decide +kernel)) rfl
theorem xb_9 : Cond.initialized xR9 ∈ xTs := ix_gd (List.mem_of_getElem? (i := 131) (by decide +kernel)) rfl
theorem xg9 : ∀ j, j < 6 → ix_dv (ix_g ix_f9 j) (xt9 j) = true := by decide +kernel
theorem xa_10 : Cond.instantiable xR10 4 ∈ xTs := ix_gd (List.mem_of_getElem? (i := 519) (by decide +kernel)) rfl
theorem xb_10 : Cond.initialized xR10 ∈ xTs := ix_gd (List.mem_of_getElem? (i := 134) (by decide +kernel)) rfl
theorem xg10 : ∀ j, j < 4 → ix_dv (ix_g ix_f10 j) (xt10 j) = true := by decide +kernel
theorem xa_11 : Cond.instantiable xR11 15 ∈ xTs := ix_gd (List.mem_of_getElem? (i := 144) (by decide +kernel)) rfl
theorem xb_11 : Cond.initialized xR11 ∈ xTs := ix_gd (List.mem_of_getElem? (i := 122) (by decide +kernel)) rfl
theorem xg11 : ∀ j, j < 15 → ix_dv (ix_g ix_f11 j) (xt11 j) = true := by decide +kernel
theorem xa_12 : Cond.instantiable xR12 62 ∈ xTs := ix_gd (List.mem_of_getElem? (i := 1518) (by decide +kernel)) rfl
theorem xb_12 : Cond.initialized xR12 ∈ xTs := ix_gd (List.mem_of_getElem? (i := 136) (by decide +kernel)) rfl
theorem xg12 : ∀ j, j < 62 → ix_dv (ix_g ix_f12 j) (xt12 j) = true := by decide +kernel
theorem xs_J9_max_7cf53 : Cond.static ⟨"java/lang/Math", "max", "(II)I"⟩ ∈ xTs := ix_gd (List.mem_of_getElem? (i := 164) (by decide +kernel)) rfl
theorem xz_J9_max_7cf53 : Cond.initialized "java/lang/Math" ∈ xTs := ix_gd (List.mem_of_getElem? (i := 125) (by decide +kernel)) rfl
theorem xe_J9_max_7cf53 : Cond.code ⟨"java/lang/Math", "max", "(II)I"⟩ prog_17_method_65_code 2 (some (.int)) ∈ xTs := ix_gd (List.mem_of_getElem? (i := 165) (by decide +kernel)) rfl
theorem xp_J9_max_7cf53 : (⟨"java/lang/Math", "max", "(II)I"⟩ : MethodName).cls ≠ "java/lang/invoke/MethodHandle" ∧ (⟨"java/lang/Math", "max", "(II)I"⟩ : MethodName).cls ≠ "java/lang/invoke/VarHandle" ∧ (parseMethodDescriptor (⟨"java/lang/Math", "max", "(II)I"⟩ : MethodName).desc).map (fun d => d.parameters.length) = some 2 := by decide +kernel
theorem xs_X0_forgetAll : Cond.instanceMethod ⟨"MirrorHeirs$Deeds", "forgetAll", "()V"⟩ ∈ xTs := ix_gd (List.mem_of_getElem? (i := 669) (by decide +kernel)) rfl
theorem xq_X0_forgetAll : Cond.selects "MirrorHeirs$Deeds" ⟨"MirrorHeirs$Deeds", "forgetAll", "()V"⟩ ⟨"MirrorHeirs$Deeds", "forgetAll", "()V"⟩ ∈ xTs := ix_gd (List.mem_of_getElem? (i := 670) (by decide +kernel)) rfl
theorem xz_X0_forgetAll : Cond.initialized "MirrorHeirs$Deeds" ∈ xTs := ix_gd (List.mem_of_getElem? (i := 135) (by decide +kernel)) rfl
theorem xe_X0_forgetAll : Cond.code ⟨"MirrorHeirs$Deeds", "forgetAll", "()V"⟩ prog_2_method_2_code 1 none ∈ xTs := ix_gd (List.mem_of_getElem? (i := 671) (by decide +kernel)) rfl
theorem xp_X0_forgetAll : (⟨"MirrorHeirs$Deeds", "forgetAll", "()V"⟩ : MethodName).cls ≠ "java/lang/invoke/MethodHandle" ∧ (⟨"MirrorHeirs$Deeds", "forgetAll", "()V"⟩ : MethodName).cls ≠ "java/lang/invoke/VarHandle" ∧ (parseMethodDescriptor (⟨"MirrorHeirs$Deeds", "forgetAll", "()V"⟩ : MethodName).desc).map (fun d => d.parameters.length) = some 0 := by decide +kernel
theorem xs_X11_granted : Cond.instanceMethod ⟨"MirrorHeirs", "granted", "(I)I"⟩ ∈ xTs := ix_gd (List.mem_of_getElem? (i := 678) (by decide +kernel)) rfl
theorem xq_X11_granted : Cond.selects "MirrorHeirs" ⟨"MirrorHeirs", "granted", "(I)I"⟩ ⟨"MirrorHeirs", "granted", "(I)I"⟩ ∈ xTs := ix_gd (List.mem_of_getElem? (i := 1) (by decide +kernel)) rfl
theorem xz_X11_granted : Cond.initialized "MirrorHeirs" ∈ xTs := ix_gd (List.mem_of_getElem? (i := 122) (by decide +kernel)) rfl
theorem xe_X11_granted : Cond.code ⟨"MirrorHeirs", "granted", "(I)I"⟩ prog_1_method_48_code 2 (some (.int)) ∈ xTs := ix_gd (List.mem_of_getElem? (i := 679) (by decide +kernel)) rfl
theorem xp_X11_granted : (⟨"MirrorHeirs", "granted", "(I)I"⟩ : MethodName).cls ≠ "java/lang/invoke/MethodHandle" ∧ (⟨"MirrorHeirs", "granted", "(I)I"⟩ : MethodName).cls ≠ "java/lang/invoke/VarHandle" ∧ (parseMethodDescriptor (⟨"MirrorHeirs", "granted", "(I)I"⟩ : MethodName).desc).map (fun d => d.parameters.length) = some 1 := by decide +kernel
theorem xs_X11_isCell : Cond.static ⟨"MirrorHeirs", "isCell", "(I)Z"⟩ ∈ xTs := ix_gd (List.mem_of_getElem? (i := 627) (by decide +kernel)) rfl
theorem xz_X11_isCell : Cond.initialized "MirrorHeirs" ∈ xTs := ix_gd (List.mem_of_getElem? (i := 122) (by decide +kernel)) rfl
theorem xe_X11_isCell : Cond.code ⟨"MirrorHeirs", "isCell", "(I)Z"⟩ prog_1_method_59_code 1 (some (.boolean)) ∈ xTs := ix_gd (List.mem_of_getElem? (i := 628) (by decide +kernel)) rfl
theorem xp_X11_isCell : (⟨"MirrorHeirs", "isCell", "(I)Z"⟩ : MethodName).cls ≠ "java/lang/invoke/MethodHandle" ∧ (⟨"MirrorHeirs", "isCell", "(I)Z"⟩ : MethodName).cls ≠ "java/lang/invoke/VarHandle" ∧ (parseMethodDescriptor (⟨"MirrorHeirs", "isCell", "(I)Z"⟩ : MethodName).desc).map (fun d => d.parameters.length) = some 1 := by decide +kernel
theorem xs_X11_isKind : Cond.static ⟨"MirrorHeirs", "isKind", "(I)Z"⟩ ∈ xTs := ix_gd (List.mem_of_getElem? (i := 630) (by decide +kernel)) rfl
theorem xz_X11_isKind : Cond.initialized "MirrorHeirs" ∈ xTs := ix_gd (List.mem_of_getElem? (i := 122) (by decide +kernel)) rfl
theorem xe_X11_isKind : Cond.code ⟨"MirrorHeirs", "isKind", "(I)Z"⟩ prog_1_method_60_code 1 (some (.boolean)) ∈ xTs := ix_gd (List.mem_of_getElem? (i := 631) (by decide +kernel)) rfl
theorem xp_X11_isKind : (⟨"MirrorHeirs", "isKind", "(I)Z"⟩ : MethodName).cls ≠ "java/lang/invoke/MethodHandle" ∧ (⟨"MirrorHeirs", "isKind", "(I)Z"⟩ : MethodName).cls ≠ "java/lang/invoke/VarHandle" ∧ (parseMethodDescriptor (⟨"MirrorHeirs", "isKind", "(I)Z"⟩ : MethodName).desc).map (fun d => d.parameters.length) = some 1 := by decide +kernel
theorem xs_X11_refused : Cond.instanceMethod ⟨"MirrorHeirs", "refused", "(I)I"⟩ ∈ xTs := ix_gd (List.mem_of_getElem? (i := 634) (by decide +kernel)) rfl
theorem xq_X11_refused : Cond.selects "MirrorHeirs" ⟨"MirrorHeirs", "refused", "(I)I"⟩ ⟨"MirrorHeirs", "refused", "(I)I"⟩ ∈ xTs := ix_gd (List.mem_of_getElem? (i := 0) (by decide +kernel)) rfl
theorem xz_X11_refused : Cond.initialized "MirrorHeirs" ∈ xTs := ix_gd (List.mem_of_getElem? (i := 122) (by decide +kernel)) rfl
theorem xe_X11_refused : Cond.code ⟨"MirrorHeirs", "refused", "(I)I"⟩ prog_1_method_47_code 3 (some (.int)) ∈ xTs := ix_gd (List.mem_of_getElem? (i := 635) (by decide +kernel)) rfl
theorem xp_X11_refused : (⟨"MirrorHeirs", "refused", "(I)I"⟩ : MethodName).cls ≠ "java/lang/invoke/MethodHandle" ∧ (⟨"MirrorHeirs", "refused", "(I)I"⟩ : MethodName).cls ≠ "java/lang/invoke/VarHandle" ∧ (parseMethodDescriptor (⟨"MirrorHeirs", "refused", "(I)I"⟩ : MethodName).desc).map (fun d => d.parameters.length) = some 1 := by decide +kernel
theorem xs_X1_kindAt : Cond.instanceMethod ⟨"MirrorHeirs$Hall", "kindAt", "(I)I"⟩ ∈ xTs := ix_gd (List.mem_of_getElem? (i := 649) (by decide +kernel)) rfl
theorem xq_X1_kindAt : Cond.selects "MirrorHeirs$Hall" ⟨"MirrorHeirs$Hall", "kindAt", "(I)I"⟩ ⟨"MirrorHeirs$Hall", "kindAt", "(I)I"⟩ ∈ xTs := ix_gd (List.mem_of_getElem? (i := 650) (by decide +kernel)) rfl
theorem xz_X1_kindAt : Cond.initialized "MirrorHeirs$Hall" ∈ xTs := ix_gd (List.mem_of_getElem? (i := 123) (by decide +kernel)) rfl
theorem xe_X1_kindAt : Cond.code ⟨"MirrorHeirs$Hall", "kindAt", "(I)I"⟩ prog_3_method_2_code 2 (some (.int)) ∈ xTs := ix_gd (List.mem_of_getElem? (i := 651) (by decide +kernel)) rfl
theorem xp_X1_kindAt : (⟨"MirrorHeirs$Hall", "kindAt", "(I)I"⟩ : MethodName).cls ≠ "java/lang/invoke/MethodHandle" ∧ (⟨"MirrorHeirs$Hall", "kindAt", "(I)I"⟩ : MethodName).cls ≠ "java/lang/invoke/VarHandle" ∧ (parseMethodDescriptor (⟨"MirrorHeirs$Hall", "kindAt", "(I)I"⟩ : MethodName).desc).map (fun d => d.parameters.length) = some 1 := by decide +kernel
theorem xs_X1_lay : Cond.instanceMethod ⟨"MirrorHeirs$Hall", "lay", "(II)V"⟩ ∈ xTs := ix_gd (List.mem_of_getElem? (i := 653) (by decide +kernel)) rfl
theorem xq_X1_lay : Cond.selects "MirrorHeirs$Hall" ⟨"MirrorHeirs$Hall", "lay", "(II)V"⟩ ⟨"MirrorHeirs$Hall", "lay", "(II)V"⟩ ∈ xTs := ix_gd (List.mem_of_getElem? (i := 654) (by decide +kernel)) rfl
theorem xz_X1_lay : Cond.initialized "MirrorHeirs$Hall" ∈ xTs := ix_gd (List.mem_of_getElem? (i := 123) (by decide +kernel)) rfl
theorem xe_X1_lay : Cond.code ⟨"MirrorHeirs$Hall", "lay", "(II)V"⟩ prog_3_method_5_code 3 none ∈ xTs := ix_gd (List.mem_of_getElem? (i := 655) (by decide +kernel)) rfl
theorem xp_X1_lay : (⟨"MirrorHeirs$Hall", "lay", "(II)V"⟩ : MethodName).cls ≠ "java/lang/invoke/MethodHandle" ∧ (⟨"MirrorHeirs$Hall", "lay", "(II)V"⟩ : MethodName).cls ≠ "java/lang/invoke/VarHandle" ∧ (parseMethodDescriptor (⟨"MirrorHeirs$Hall", "lay", "(II)V"⟩ : MethodName).desc).map (fun d => d.parameters.length) = some 2 := by decide +kernel
theorem xs_X1_mayLay : Cond.instanceMethod ⟨"MirrorHeirs$Hall", "mayLay", "(II)Z"⟩ ∈ xTs := ix_gd (List.mem_of_getElem? (i := 637) (by decide +kernel)) rfl
theorem xq_X1_mayLay : Cond.selects "MirrorHeirs$Hall" ⟨"MirrorHeirs$Hall", "mayLay", "(II)Z"⟩ ⟨"MirrorHeirs$Hall", "mayLay", "(II)Z"⟩ ∈ xTs := ix_gd (List.mem_of_getElem? (i := 638) (by decide +kernel)) rfl
theorem xz_X1_mayLay : Cond.initialized "MirrorHeirs$Hall" ∈ xTs := ix_gd (List.mem_of_getElem? (i := 123) (by decide +kernel)) rfl
theorem xe_X1_mayLay : Cond.code ⟨"MirrorHeirs$Hall", "mayLay", "(II)Z"⟩ prog_3_method_4_code 3 (some (.boolean)) ∈ xTs := ix_gd (List.mem_of_getElem? (i := 639) (by decide +kernel)) rfl
theorem xp_X1_mayLay : (⟨"MirrorHeirs$Hall", "mayLay", "(II)Z"⟩ : MethodName).cls ≠ "java/lang/invoke/MethodHandle" ∧ (⟨"MirrorHeirs$Hall", "mayLay", "(II)Z"⟩ : MethodName).cls ≠ "java/lang/invoke/VarHandle" ∧ (parseMethodDescriptor (⟨"MirrorHeirs$Hall", "mayLay", "(II)Z"⟩ : MethodName).desc).map (fun d => d.parameters.length) = some 2 := by decide +kernel
theorem xs_X4_get : Cond.instanceMethod ⟨"MirrorHeirs$Rows", "get", "(II)I"⟩ ∈ xTs := ix_gd (List.mem_of_getElem? (i := 645) (by decide +kernel)) rfl
theorem xq_X4_get : Cond.selects "MirrorHeirs$Rows" ⟨"MirrorHeirs$Rows", "get", "(II)I"⟩ ⟨"MirrorHeirs$Rows", "get", "(II)I"⟩ ∈ xTs := ix_gd (List.mem_of_getElem? (i := 646) (by decide +kernel)) rfl
theorem xz_X4_get : Cond.initialized "MirrorHeirs$Rows" ∈ xTs := ix_gd (List.mem_of_getElem? (i := 124) (by decide +kernel)) rfl
theorem xe_X4_get : Cond.code ⟨"MirrorHeirs$Rows", "get", "(II)I"⟩ prog_6_method_3_code 4 (some (.int)) ∈ xTs := ix_gd (List.mem_of_getElem? (i := 647) (by decide +kernel)) rfl
theorem xp_X4_get : (⟨"MirrorHeirs$Rows", "get", "(II)I"⟩ : MethodName).cls ≠ "java/lang/invoke/MethodHandle" ∧ (⟨"MirrorHeirs$Rows", "get", "(II)I"⟩ : MethodName).cls ≠ "java/lang/invoke/VarHandle" ∧ (parseMethodDescriptor (⟨"MirrorHeirs$Rows", "get", "(II)I"⟩ : MethodName).desc).map (fun d => d.parameters.length) = some 2 := by decide +kernel
theorem xs_X4_init : Cond.instanceMethod ⟨"MirrorHeirs$Rows", "<init>", "(II)V"⟩ ∈ xTs := ix_gd (List.mem_of_getElem? (i := 160) (by decide +kernel)) rfl
theorem xz_X4_init : Cond.initialized "MirrorHeirs$Rows" ∈ xTs := ix_gd (List.mem_of_getElem? (i := 124) (by decide +kernel)) rfl
theorem xe_X4_init : Cond.code ⟨"MirrorHeirs$Rows", "<init>", "(II)V"⟩ prog_6_method_1_code 3 none ∈ xTs := ix_gd (List.mem_of_getElem? (i := 161) (by decide +kernel)) rfl
theorem xp_X4_init : (⟨"MirrorHeirs$Rows", "<init>", "(II)V"⟩ : MethodName).cls ≠ "java/lang/invoke/MethodHandle" ∧ (⟨"MirrorHeirs$Rows", "<init>", "(II)V"⟩ : MethodName).cls ≠ "java/lang/invoke/VarHandle" ∧ (parseMethodDescriptor (⟨"MirrorHeirs$Rows", "<init>", "(II)V"⟩ : MethodName).desc).map (fun d => d.parameters.length) = some 2 := by decide +kernel
theorem xs_X4_set : Cond.instanceMethod ⟨"MirrorHeirs$Rows", "set", "(III)V"⟩ ∈ xTs := ix_gd (List.mem_of_getElem? (i := 700) (by decide +kernel)) rfl
theorem xq_X4_set : Cond.selects "MirrorHeirs$Rows" ⟨"MirrorHeirs$Rows", "set", "(III)V"⟩ ⟨"MirrorHeirs$Rows", "set", "(III)V"⟩ ∈ xTs := ix_gd (List.mem_of_getElem? (i := 701) (by decide +kernel)) rfl
theorem xz_X4_set : Cond.initialized "MirrorHeirs$Rows" ∈ xTs := ix_gd (List.mem_of_getElem? (i := 124) (by decide +kernel)) rfl
theorem xe_X4_set : Cond.code ⟨"MirrorHeirs$Rows", "set", "(III)V"⟩ prog_6_method_4_code 5 none ∈ xTs := ix_gd (List.mem_of_getElem? (i := 702) (by decide +kernel)) rfl
theorem xp_X4_set : (⟨"MirrorHeirs$Rows", "set", "(III)V"⟩ : MethodName).cls ≠ "java/lang/invoke/MethodHandle" ∧ (⟨"MirrorHeirs$Rows", "set", "(III)V"⟩ : MethodName).cls ≠ "java/lang/invoke/VarHandle" ∧ (parseMethodDescriptor (⟨"MirrorHeirs$Rows", "set", "(III)V"⟩ : MethodName).desc).map (fun d => d.parameters.length) = some 3 := by decide +kernel
