theorem xs_X0_note : Cond.instanceMethod ⟨"MirrorHeirs$Deeds", "note", "(III)V"⟩ ∈ xTs := xt_3 131 rfl rfl
theorem xq_X0_note : Cond.selects "MirrorHeirs$Deeds" ⟨"MirrorHeirs$Deeds", "note", "(III)V"⟩ ⟨"MirrorHeirs$Deeds", "note", "(III)V"⟩ ∈ xTs := xp1 3 rfl
theorem xz_X0_note : Cond.initialized "MirrorHeirs$Deeds" ∈ xTs := xt_1 14 rfl rfl
theorem xe_X0_note : Cond.code ⟨"MirrorHeirs$Deeds", "note", "(III)V"⟩ prog_2_method_5_code 4 none ∈ xTs := xt_3 132 rfl rfl
theorem xp_X0_note : (⟨"MirrorHeirs$Deeds", "note", "(III)V"⟩ : MethodName).cls ≠ "java/lang/invoke/MethodHandle" ∧ (⟨"MirrorHeirs$Deeds", "note", "(III)V"⟩ : MethodName).cls ≠ "java/lang/invoke/VarHandle" ∧ (parseMethodDescriptor (⟨"MirrorHeirs$Deeds", "note", "(III)V"⟩ : MethodName).desc).map (fun d => d.parameters.length) = some 3 := by decide +kernel
theorem xs_X0_perform : Cond.instanceMethod ⟨"MirrorHeirs$Deeds", "perform", "(LMirrorHeirs$Text;I)Z"⟩ ∈ xTs := xt_5 94 rfl rfl
theorem xq_X0_perform : Cond.selects "MirrorHeirs$Deeds" ⟨"MirrorHeirs$Deeds", "perform", "(LMirrorHeirs$Text;I)Z"⟩ ⟨"MirrorHeirs$Deeds", "perform", "(LMirrorHeirs$Text;I)Z"⟩ ∈ xTs := xp3 3 rfl
theorem xz_X0_perform : Cond.initialized "MirrorHeirs$Deeds" ∈ xTs := xt_1 14 rfl rfl
theorem xe_X0_perform : Cond.code ⟨"MirrorHeirs$Deeds", "perform", "(LMirrorHeirs$Text;I)Z"⟩ prog_2_method_9_code 7 (some (.boolean)) ∈ xTs := xt_5 95 rfl rfl
theorem xp_X0_perform : (⟨"MirrorHeirs$Deeds", "perform", "(LMirrorHeirs$Text;I)Z"⟩ : MethodName).cls ≠ "java/lang/invoke/MethodHandle" ∧ (⟨"MirrorHeirs$Deeds", "perform", "(LMirrorHeirs$Text;I)Z"⟩ : MethodName).cls ≠ "java/lang/invoke/VarHandle" ∧ (parseMethodDescriptor (⟨"MirrorHeirs$Deeds", "perform", "(LMirrorHeirs$Text;I)Z"⟩ : MethodName).desc).map (fun d => d.parameters.length) = some 2 := by decide +kernel
theorem xs_X0_run : Cond.instanceMethod ⟨"MirrorHeirs$Deeds", "run", "(LMirrorHeirs$Text;)I"⟩ ∈ xTs := xt_4 191 rfl rfl
theorem xq_X0_run : Cond.selects "MirrorHeirs$Deeds" ⟨"MirrorHeirs$Deeds", "run", "(LMirrorHeirs$Text;)I"⟩ ⟨"MirrorHeirs$Deeds", "run", "(LMirrorHeirs$Text;)I"⟩ ∈ xTs := xt_4 192 rfl rfl
theorem xz_X0_run : Cond.initialized "MirrorHeirs$Deeds" ∈ xTs := xt_1 14 rfl rfl
theorem xe_X0_run : Cond.code ⟨"MirrorHeirs$Deeds", "run", "(LMirrorHeirs$Text;)I"⟩ prog_2_method_7_code 6 (some (.int)) ∈ xTs := xt_4 193 rfl rfl
theorem xp_X0_run : (⟨"MirrorHeirs$Deeds", "run", "(LMirrorHeirs$Text;)I"⟩ : MethodName).cls ≠ "java/lang/invoke/MethodHandle" ∧ (⟨"MirrorHeirs$Deeds", "run", "(LMirrorHeirs$Text;)I"⟩ : MethodName).cls ≠ "java/lang/invoke/VarHandle" ∧ (parseMethodDescriptor (⟨"MirrorHeirs$Deeds", "run", "(LMirrorHeirs$Text;)I"⟩ : MethodName).desc).map (fun d => d.parameters.length) = some 1 := by decide +kernel
theorem xs_X0_takeBack : Cond.instanceMethod ⟨"MirrorHeirs$Deeds", "takeBack", "()I"⟩ ∈ xTs := xt_3 154 rfl rfl
theorem xq_X0_takeBack : Cond.selects "MirrorHeirs$Deeds" ⟨"MirrorHeirs$Deeds", "takeBack", "()I"⟩ ⟨"MirrorHeirs$Deeds", "takeBack", "()I"⟩ ∈ xTs := xt_3 155 rfl rfl
theorem xz_X0_takeBack : Cond.initialized "MirrorHeirs$Deeds" ∈ xTs := xt_1 14 rfl rfl
theorem xe_X0_takeBack : Cond.code ⟨"MirrorHeirs$Deeds", "takeBack", "()I"⟩ prog_2_method_6_code 3 (some (.int)) ∈ xTs := xt_3 156 rfl rfl
theorem xp_X0_takeBack : (⟨"MirrorHeirs$Deeds", "takeBack", "()I"⟩ : MethodName).cls ≠ "java/lang/invoke/MethodHandle" ∧ (⟨"MirrorHeirs$Deeds", "takeBack", "()I"⟩ : MethodName).cls ≠ "java/lang/invoke/VarHandle" ∧ (parseMethodDescriptor (⟨"MirrorHeirs$Deeds", "takeBack", "()I"⟩ : MethodName).desc).map (fun d => d.parameters.length) = some 0 := by decide +kernel
theorem xs_X0_turnPivot : Cond.instanceMethod ⟨"MirrorHeirs$Deeds", "turnPivot", "(I)V"⟩ ∈ xTs := xt_3 117 rfl rfl
theorem xq_X0_turnPivot : Cond.selects "MirrorHeirs$Deeds" ⟨"MirrorHeirs$Deeds", "turnPivot", "(I)V"⟩ ⟨"MirrorHeirs$Deeds", "turnPivot", "(I)V"⟩ ∈ xTs := xt_3 118 rfl rfl
theorem xz_X0_turnPivot : Cond.initialized "MirrorHeirs$Deeds" ∈ xTs := xt_1 14 rfl rfl
theorem xe_X0_turnPivot : Cond.code ⟨"MirrorHeirs$Deeds", "turnPivot", "(I)V"⟩ prog_2_method_3_code 2 none ∈ xTs := xt_3 119 rfl rfl
theorem xp_X0_turnPivot : (⟨"MirrorHeirs$Deeds", "turnPivot", "(I)V"⟩ : MethodName).cls ≠ "java/lang/invoke/MethodHandle" ∧ (⟨"MirrorHeirs$Deeds", "turnPivot", "(I)V"⟩ : MethodName).cls ≠ "java/lang/invoke/VarHandle" ∧ (parseMethodDescriptor (⟨"MirrorHeirs$Deeds", "turnPivot", "(I)V"⟩ : MethodName).desc).map (fun d => d.parameters.length) = some 1 := by decide +kernel
theorem xs_X10_blow : Cond.instanceMethod ⟨"MirrorHeirs$Wind", "blow", "(II)I"⟩ ∈ xTs := xt_6 149 rfl rfl
theorem xq_X10_blow : Cond.selects "MirrorHeirs$Wind" ⟨"MirrorHeirs$Wind", "blow", "(II)I"⟩ ⟨"MirrorHeirs$Wind", "blow", "(II)I"⟩ ∈ xTs := xt_6 150 rfl rfl
theorem xz_X10_blow : Cond.initialized "MirrorHeirs$Wind" ∈ xTs := xt_1 13 rfl rfl
theorem xe_X10_blow : Cond.code ⟨"MirrorHeirs$Wind", "blow", "(II)I"⟩ prog_12_method_2_code 7 (some (.int)) ∈ xTs := xt_6 151 rfl rfl
theorem xp_X10_blow : (⟨"MirrorHeirs$Wind", "blow", "(II)I"⟩ : MethodName).cls ≠ "java/lang/invoke/MethodHandle" ∧ (⟨"MirrorHeirs$Wind", "blow", "(II)I"⟩ : MethodName).cls ≠ "java/lang/invoke/VarHandle" ∧ (parseMethodDescriptor (⟨"MirrorHeirs$Wind", "blow", "(II)I"⟩ : MethodName).desc).map (fun d => d.parameters.length) = some 2 := by decide +kernel
theorem xs_X10_draw : Cond.instanceMethod ⟨"MirrorHeirs$Wind", "draw", "(I)I"⟩ ∈ xTs := xt_6 162 rfl rfl
theorem xq_X10_draw : Cond.selects "MirrorHeirs$Wind" ⟨"MirrorHeirs$Wind", "draw", "(I)I"⟩ ⟨"MirrorHeirs$Wind", "draw", "(I)I"⟩ ∈ xTs := xp4 4 rfl
theorem xz_X10_draw : Cond.initialized "MirrorHeirs$Wind" ∈ xTs := xt_1 13 rfl rfl
theorem xe_X10_draw : Cond.code ⟨"MirrorHeirs$Wind", "draw", "(I)I"⟩ prog_12_method_4_code 2 (some (.int)) ∈ xTs := xt_6 163 rfl rfl
theorem xp_X10_draw : (⟨"MirrorHeirs$Wind", "draw", "(I)I"⟩ : MethodName).cls ≠ "java/lang/invoke/MethodHandle" ∧ (⟨"MirrorHeirs$Wind", "draw", "(I)I"⟩ : MethodName).cls ≠ "java/lang/invoke/VarHandle" ∧ (parseMethodDescriptor (⟨"MirrorHeirs$Wind", "draw", "(I)I"⟩ : MethodName).desc).map (fun d => d.parameters.length) = some 1 := by decide +kernel
theorem xs_X10_drift : Cond.instanceMethod ⟨"MirrorHeirs$Wind", "drift", "(I)V"⟩ ∈ xTs := xt_6 158 rfl rfl
theorem xq_X10_drift : Cond.selects "MirrorHeirs$Wind" ⟨"MirrorHeirs$Wind", "drift", "(I)V"⟩ ⟨"MirrorHeirs$Wind", "drift", "(I)V"⟩ ∈ xTs := xp4 3 rfl
theorem xz_X10_drift : Cond.initialized "MirrorHeirs$Wind" ∈ xTs := xt_1 13 rfl rfl
theorem xe_X10_drift : Cond.code ⟨"MirrorHeirs$Wind", "drift", "(I)V"⟩ prog_12_method_3_code 3 none ∈ xTs := xt_6 159 rfl rfl
theorem xp_X10_drift : (⟨"MirrorHeirs$Wind", "drift", "(I)V"⟩ : MethodName).cls ≠ "java/lang/invoke/MethodHandle" ∧ (⟨"MirrorHeirs$Wind", "drift", "(I)V"⟩ : MethodName).cls ≠ "java/lang/invoke/VarHandle" ∧ (parseMethodDescriptor (⟨"MirrorHeirs$Wind", "drift", "(I)V"⟩ : MethodName).desc).map (fun d => d.parameters.length) = some 1 := by decide +kernel
theorem xs_X10_init : Cond.instanceMethod ⟨"MirrorHeirs$Wind", "<init>", "(LMirrorHeirs$Hall;LMirrorHeirs$Shares;)V"⟩ ∈ xTs := xt_2 160 rfl rfl
theorem xz_X10_init : Cond.initialized "MirrorHeirs$Wind" ∈ xTs := xt_1 13 rfl rfl
theorem xe_X10_init : Cond.code ⟨"MirrorHeirs$Wind", "<init>", "(LMirrorHeirs$Hall;LMirrorHeirs$Shares;)V"⟩ prog_12_method_1_code 3 none ∈ xTs := xt_2 161 rfl rfl
theorem xp_X10_init : (⟨"MirrorHeirs$Wind", "<init>", "(LMirrorHeirs$Hall;LMirrorHeirs$Shares;)V"⟩ : MethodName).cls ≠ "java/lang/invoke/MethodHandle" ∧ (⟨"MirrorHeirs$Wind", "<init>", "(LMirrorHeirs$Hall;LMirrorHeirs$Shares;)V"⟩ : MethodName).cls ≠ "java/lang/invoke/VarHandle" ∧ (parseMethodDescriptor (⟨"MirrorHeirs$Wind", "<init>", "(LMirrorHeirs$Hall;LMirrorHeirs$Shares;)V"⟩ : MethodName).desc).map (fun d => d.parameters.length) = some 2 := by decide +kernel
theorem xs_X11_added : Cond.instanceMethod ⟨"MirrorHeirs", "added", "(I)I"⟩ ∈ xTs := xt_3 104 rfl rfl
theorem xq_X11_added : Cond.selects "MirrorHeirs" ⟨"MirrorHeirs", "added", "(I)I"⟩ ⟨"MirrorHeirs", "added", "(I)I"⟩ ∈ xTs := xp1 2 rfl
theorem xz_X11_added : Cond.initialized "MirrorHeirs" ∈ xTs := xt_1 1 rfl rfl
theorem xe_X11_added : Cond.code ⟨"MirrorHeirs", "added", "(I)I"⟩ prog_1_method_49_code 2 (some (.int)) ∈ xTs := xt_3 105 rfl rfl
theorem xp_X11_added : (⟨"MirrorHeirs", "added", "(I)I"⟩ : MethodName).cls ≠ "java/lang/invoke/MethodHandle" ∧ (⟨"MirrorHeirs", "added", "(I)I"⟩ : MethodName).cls ≠ "java/lang/invoke/VarHandle" ∧ (parseMethodDescriptor (⟨"MirrorHeirs", "added", "(I)I"⟩ : MethodName).desc).map (fun d => d.parameters.length) = some 1 := by decide +kernel
theorem xs_X11_addedCount : Cond.instanceMethod ⟨"MirrorHeirs", "addedCount", "(I)I"⟩ ∈ xTs := xt_5 231 rfl rfl
theorem xq_X11_addedCount : Cond.selects "MirrorHeirs" ⟨"MirrorHeirs", "addedCount", "(I)I"⟩ ⟨"MirrorHeirs", "addedCount", "(I)I"⟩ ∈ xTs := xp3 9 rfl
theorem xz_X11_addedCount : Cond.initialized "MirrorHeirs" ∈ xTs := xt_1 1 rfl rfl
theorem xe_X11_addedCount : Cond.code ⟨"MirrorHeirs", "addedCount", "(I)I"⟩ prog_1_method_50_code 2 (some (.int)) ∈ xTs := xt_5 232 rfl rfl
theorem xp_X11_addedCount : (⟨"MirrorHeirs", "addedCount", "(I)I"⟩ : MethodName).cls ≠ "java/lang/invoke/MethodHandle" ∧ (⟨"MirrorHeirs", "addedCount", "(I)I"⟩ : MethodName).cls ≠ "java/lang/invoke/VarHandle" ∧ (parseMethodDescriptor (⟨"MirrorHeirs", "addedCount", "(I)I"⟩ : MethodName).desc).map (fun d => d.parameters.length) = some 1 := by decide +kernel
theorem xs_X11_append : Cond.instanceMethod ⟨"MirrorHeirs", "append", "(I)V"⟩ ∈ xTs := xt_3 187 rfl rfl
theorem xq_X11_append : Cond.selects "MirrorHeirs" ⟨"MirrorHeirs", "append", "(I)V"⟩ ⟨"MirrorHeirs", "append", "(I)V"⟩ ∈ xTs := xp1 4 rfl
theorem xz_X11_append : Cond.initialized "MirrorHeirs" ∈ xTs := xt_1 1 rfl rfl
theorem xe_X11_append : Cond.code ⟨"MirrorHeirs", "append", "(I)V"⟩ prog_1_method_52_code 3 none ∈ xTs := xt_3 188 rfl rfl
theorem xp_X11_append : (⟨"MirrorHeirs", "append", "(I)V"⟩ : MethodName).cls ≠ "java/lang/invoke/MethodHandle" ∧ (⟨"MirrorHeirs", "append", "(I)V"⟩ : MethodName).cls ≠ "java/lang/invoke/VarHandle" ∧ (parseMethodDescriptor (⟨"MirrorHeirs", "append", "(I)V"⟩ : MethodName).desc).map (fun d => d.parameters.length) = some 1 := by decide +kernel
theorem xs_X11_at : Cond.instanceMethod ⟨"MirrorHeirs", "at", "(II)I"⟩ ∈ xTs := xt_3 80 rfl rfl
theorem xq_X11_at : Cond.selects "MirrorHeirs" ⟨"MirrorHeirs", "at", "(II)I"⟩ ⟨"MirrorHeirs", "at", "(II)I"⟩ ∈ xTs := xt_3 81 rfl rfl
theorem xz_X11_at : Cond.initialized "MirrorHeirs" ∈ xTs := xt_1 1 rfl rfl
theorem xe_X11_at : Cond.code ⟨"MirrorHeirs", "at", "(II)I"⟩ prog_1_method_3_code 3 (some (.int)) ∈ xTs := xt_3 82 rfl rfl
theorem xp_X11_at : (⟨"MirrorHeirs", "at", "(II)I"⟩ : MethodName).cls ≠ "java/lang/invoke/MethodHandle" ∧ (⟨"MirrorHeirs", "at", "(II)I"⟩ : MethodName).cls ≠ "java/lang/invoke/VarHandle" ∧ (parseMethodDescriptor (⟨"MirrorHeirs", "at", "(II)I"⟩ : MethodName).desc).map (fun d => d.parameters.length) = some 2 := by decide +kernel
theorem xs_X11_back : Cond.instanceMethod ⟨"MirrorHeirs", "back", "(I)I"⟩ ∈ xTs := xt_6 181 rfl rfl
theorem xq_X11_back : Cond.selects "MirrorHeirs" ⟨"MirrorHeirs", "back", "(I)I"⟩ ⟨"MirrorHeirs", "back", "(I)I"⟩ ∈ xTs := xt_6 182 rfl rfl
theorem xz_X11_back : Cond.initialized "MirrorHeirs" ∈ xTs := xt_1 1 rfl rfl
theorem xe_X11_back : Cond.code ⟨"MirrorHeirs", "back", "(I)I"⟩ prog_1_method_44_code 2 (some (.int)) ∈ xTs := xt_6 183 rfl rfl
theorem xp_X11_back : (⟨"MirrorHeirs", "back", "(I)I"⟩ : MethodName).cls ≠ "java/lang/invoke/MethodHandle" ∧ (⟨"MirrorHeirs", "back", "(I)I"⟩ : MethodName).cls ≠ "java/lang/invoke/VarHandle" ∧ (parseMethodDescriptor (⟨"MirrorHeirs", "back", "(I)I"⟩ : MethodName).desc).map (fun d => d.parameters.length) = some 1 := by decide +kernel
theorem xs_X11_bent : Cond.static ⟨"MirrorHeirs", "bent", "(II)I"⟩ ∈ xTs := xt_5 22 rfl rfl
theorem xz_X11_bent : Cond.initialized "MirrorHeirs" ∈ xTs := xt_1 1 rfl rfl
theorem xe_X11_bent : Cond.code ⟨"MirrorHeirs", "bent", "(II)I"⟩ prog_1_method_64_code 3 (some (.int)) ∈ xTs := xt_5 23 rfl rfl
theorem xp_X11_bent : (⟨"MirrorHeirs", "bent", "(II)I"⟩ : MethodName).cls ≠ "java/lang/invoke/MethodHandle" ∧ (⟨"MirrorHeirs", "bent", "(II)I"⟩ : MethodName).cls ≠ "java/lang/invoke/VarHandle" ∧ (parseMethodDescriptor (⟨"MirrorHeirs", "bent", "(II)I"⟩ : MethodName).desc).map (fun d => d.parameters.length) = some 2 := by decide +kernel
theorem xs_X11_candle : Cond.instanceMethod ⟨"MirrorHeirs", "candle", "(I)I"⟩ ∈ xTs := xt_3 162 rfl rfl
theorem xq_X11_candle : Cond.selects "MirrorHeirs" ⟨"MirrorHeirs", "candle", "(I)I"⟩ ⟨"MirrorHeirs", "candle", "(I)I"⟩ ∈ xTs := xt_3 163 rfl rfl
theorem xz_X11_candle : Cond.initialized "MirrorHeirs" ∈ xTs := xt_1 1 rfl rfl
theorem xe_X11_candle : Cond.code ⟨"MirrorHeirs", "candle", "(I)I"⟩ prog_1_method_11_code 2 (some (.int)) ∈ xTs := xt_3 164 rfl rfl
theorem xp_X11_candle : (⟨"MirrorHeirs", "candle", "(I)I"⟩ : MethodName).cls ≠ "java/lang/invoke/MethodHandle" ∧ (⟨"MirrorHeirs", "candle", "(I)I"⟩ : MethodName).cls ≠ "java/lang/invoke/VarHandle" ∧ (parseMethodDescriptor (⟨"MirrorHeirs", "candle", "(I)I"⟩ : MethodName).desc).map (fun d => d.parameters.length) = some 1 := by decide +kernel
theorem xs_X11_claim : Cond.instanceMethod ⟨"MirrorHeirs", "claim", "(III)I"⟩ ∈ xTs := xt_5 142 rfl rfl
theorem xq_X11_claim : Cond.selects "MirrorHeirs" ⟨"MirrorHeirs", "claim", "(III)I"⟩ ⟨"MirrorHeirs", "claim", "(III)I"⟩ ∈ xTs := xt_5 143 rfl rfl
theorem xz_X11_claim : Cond.initialized "MirrorHeirs" ∈ xTs := xt_1 1 rfl rfl
theorem xe_X11_claim : Cond.code ⟨"MirrorHeirs", "claim", "(III)I"⟩ prog_1_method_26_code 6 (some (.int)) ∈ xTs := xt_5 144 rfl rfl
theorem xp_X11_claim : (⟨"MirrorHeirs", "claim", "(III)I"⟩ : MethodName).cls ≠ "java/lang/invoke/MethodHandle" ∧ (⟨"MirrorHeirs", "claim", "(III)I"⟩ : MethodName).cls ≠ "java/lang/invoke/VarHandle" ∧ (parseMethodDescriptor (⟨"MirrorHeirs", "claim", "(III)I"⟩ : MethodName).desc).map (fun d => d.parameters.length) = some 3 := by decide +kernel
theorem xs_X11_count : Cond.instanceMethod ⟨"MirrorHeirs", "count", "(I)I"⟩ ∈ xTs := xt_6 185 rfl rfl
theorem xq_X11_count : Cond.selects "MirrorHeirs" ⟨"MirrorHeirs", "count", "(I)I"⟩ ⟨"MirrorHeirs", "count", "(I)I"⟩ ∈ xTs := xt_6 186 rfl rfl
theorem xz_X11_count : Cond.initialized "MirrorHeirs" ∈ xTs := xt_1 1 rfl rfl
theorem xe_X11_count : Cond.code ⟨"MirrorHeirs", "count", "(I)I"⟩ prog_1_method_45_code 2 (some (.int)) ∈ xTs := xt_6 187 rfl rfl
theorem xp_X11_count : (⟨"MirrorHeirs", "count", "(I)I"⟩ : MethodName).cls ≠ "java/lang/invoke/MethodHandle" ∧ (⟨"MirrorHeirs", "count", "(I)I"⟩ : MethodName).cls ≠ "java/lang/invoke/VarHandle" ∧ (parseMethodDescriptor (⟨"MirrorHeirs", "count", "(I)I"⟩ : MethodName).desc).map (fun d => d.parameters.length) = some 1 := by decide +kernel
theorem xs_X11_countOrPick : Cond.static ⟨"MirrorHeirs", "countOrPick", "(JI)I"⟩ ∈ xTs := xt_6 54 rfl rfl
theorem xz_X11_countOrPick : Cond.initialized "MirrorHeirs" ∈ xTs := xt_1 1 rfl rfl
theorem xe_X11_countOrPick : Cond.code ⟨"MirrorHeirs", "countOrPick", "(JI)I"⟩ prog_1_method_55_code 3 (some (.int)) ∈ xTs := xt_6 55 rfl rfl
theorem xp_X11_countOrPick : (⟨"MirrorHeirs", "countOrPick", "(JI)I"⟩ : MethodName).cls ≠ "java/lang/invoke/MethodHandle" ∧ (⟨"MirrorHeirs", "countOrPick", "(JI)I"⟩ : MethodName).cls ≠ "java/lang/invoke/VarHandle" ∧ (parseMethodDescriptor (⟨"MirrorHeirs", "countOrPick", "(JI)I"⟩ : MethodName).desc).map (fun d => d.parameters.length) = some 2 := by decide +kernel
theorem xs_X11_divideNow : Cond.instanceMethod ⟨"MirrorHeirs", "divideNow", "()V"⟩ ∈ xTs := xt_5 147 rfl rfl
theorem xq_X11_divideNow : Cond.selects "MirrorHeirs" ⟨"MirrorHeirs", "divideNow", "()V"⟩ ⟨"MirrorHeirs", "divideNow", "()V"⟩ ∈ xTs := xp3 5 rfl
theorem xz_X11_divideNow : Cond.initialized "MirrorHeirs" ∈ xTs := xt_1 1 rfl rfl
theorem xe_X11_divideNow : Cond.code ⟨"MirrorHeirs", "divideNow", "()V"⟩ prog_1_method_54_code 1 none ∈ xTs := xt_5 148 rfl rfl
theorem xp_X11_divideNow : (⟨"MirrorHeirs", "divideNow", "()V"⟩ : MethodName).cls ≠ "java/lang/invoke/MethodHandle" ∧ (⟨"MirrorHeirs", "divideNow", "()V"⟩ : MethodName).cls ≠ "java/lang/invoke/VarHandle" ∧ (parseMethodDescriptor (⟨"MirrorHeirs", "divideNow", "()V"⟩ : MethodName).desc).map (fun d => d.parameters.length) = some 0 := by decide +kernel
theorem xs_X11_draughts : Cond.instanceMethod ⟨"MirrorHeirs", "draughts", "(II)I"⟩ ∈ xTs := xt_6 144 rfl rfl
theorem xq_X11_draughts : Cond.selects "MirrorHeirs" ⟨"MirrorHeirs", "draughts", "(II)I"⟩ ⟨"MirrorHeirs", "draughts", "(II)I"⟩ ∈ xTs := xt_6 145 rfl rfl
theorem xz_X11_draughts : Cond.initialized "MirrorHeirs" ∈ xTs := xt_1 1 rfl rfl
theorem xe_X11_draughts : Cond.code ⟨"MirrorHeirs", "draughts", "(II)I"⟩ prog_1_method_41_code 3 (some (.int)) ∈ xTs := xt_6 146 rfl rfl
theorem xp_X11_draughts : (⟨"MirrorHeirs", "draughts", "(II)I"⟩ : MethodName).cls ≠ "java/lang/invoke/MethodHandle" ∧ (⟨"MirrorHeirs", "draughts", "(II)I"⟩ : MethodName).cls ≠ "java/lang/invoke/VarHandle" ∧ (parseMethodDescriptor (⟨"MirrorHeirs", "draughts", "(II)I"⟩ : MethodName).desc).map (fun d => d.parameters.length) = some 2 := by decide +kernel
theorem xs_X11_drawn : Cond.instanceMethod ⟨"MirrorHeirs", "drawn", "(II)I"⟩ ∈ xTs := xt_6 172 rfl rfl
theorem xq_X11_drawn : Cond.selects "MirrorHeirs" ⟨"MirrorHeirs", "drawn", "(II)I"⟩ ⟨"MirrorHeirs", "drawn", "(II)I"⟩ ∈ xTs := xt_6 173 rfl rfl
theorem xz_X11_drawn : Cond.initialized "MirrorHeirs" ∈ xTs := xt_1 1 rfl rfl
theorem xe_X11_drawn : Cond.code ⟨"MirrorHeirs", "drawn", "(II)I"⟩ prog_1_method_42_code 3 (some (.int)) ∈ xTs := xt_6 174 rfl rfl
theorem xp_X11_drawn : (⟨"MirrorHeirs", "drawn", "(II)I"⟩ : MethodName).cls ≠ "java/lang/invoke/MethodHandle" ∧ (⟨"MirrorHeirs", "drawn", "(II)I"⟩ : MethodName).cls ≠ "java/lang/invoke/VarHandle" ∧ (parseMethodDescriptor (⟨"MirrorHeirs", "drawn", "(II)I"⟩ : MethodName).desc).map (fun d => d.parameters.length) = some 2 := by decide +kernel
theorem xs_X11_dust : Cond.instanceMethod ⟨"MirrorHeirs", "dust", "()I"⟩ ∈ xTs := xt_3 198 rfl rfl
theorem xq_X11_dust : Cond.selects "MirrorHeirs" ⟨"MirrorHeirs", "dust", "()I"⟩ ⟨"MirrorHeirs", "dust", "()I"⟩ ∈ xTs := xt_3 199 rfl rfl
theorem xz_X11_dust : Cond.initialized "MirrorHeirs" ∈ xTs := xt_1 1 rfl rfl
theorem xe_X11_dust : Cond.code ⟨"MirrorHeirs", "dust", "()I"⟩ prog_1_method_16_code 1 (some (.int)) ∈ xTs := xt_3 200 rfl rfl
theorem xp_X11_dust : (⟨"MirrorHeirs", "dust", "()I"⟩ : MethodName).cls ≠ "java/lang/invoke/MethodHandle" ∧ (⟨"MirrorHeirs", "dust", "()I"⟩ : MethodName).cls ≠ "java/lang/invoke/VarHandle" ∧ (parseMethodDescriptor (⟨"MirrorHeirs", "dust", "()I"⟩ : MethodName).desc).map (fun d => d.parameters.length) = some 0 := by decide +kernel
theorem xs_X11_end : Cond.instanceMethod ⟨"MirrorHeirs", "end", "(I)I"⟩ ∈ xTs := xt_3 190 rfl rfl
theorem xq_X11_end : Cond.selects "MirrorHeirs" ⟨"MirrorHeirs", "end", "(I)I"⟩ ⟨"MirrorHeirs", "end", "(I)I"⟩ ∈ xTs := xt_3 191 rfl rfl
theorem xz_X11_end : Cond.initialized "MirrorHeirs" ∈ xTs := xt_1 1 rfl rfl
theorem xe_X11_end : Cond.code ⟨"MirrorHeirs", "end", "(I)I"⟩ prog_1_method_14_code 2 (some (.int)) ∈ xTs := xt_3 192 rfl rfl
theorem xp_X11_end : (⟨"MirrorHeirs", "end", "(I)I"⟩ : MethodName).cls ≠ "java/lang/invoke/MethodHandle" ∧ (⟨"MirrorHeirs", "end", "(I)I"⟩ : MethodName).cls ≠ "java/lang/invoke/VarHandle" ∧ (parseMethodDescriptor (⟨"MirrorHeirs", "end", "(I)I"⟩ : MethodName).desc).map (fun d => d.parameters.length) = some 1 := by decide +kernel
theorem xs_X11_estate : Cond.instanceMethod ⟨"MirrorHeirs", "estate", "(I)I"⟩ ∈ xTs := xt_5 177 rfl rfl
theorem xq_X11_estate : Cond.selects "MirrorHeirs" ⟨"MirrorHeirs", "estate", "(I)I"⟩ ⟨"MirrorHeirs", "estate", "(I)I"⟩ ∈ xTs := xt_5 178 rfl rfl
theorem xz_X11_estate : Cond.initialized "MirrorHeirs" ∈ xTs := xt_1 1 rfl rfl
theorem xe_X11_estate : Cond.code ⟨"MirrorHeirs", "estate", "(I)I"⟩ prog_1_method_28_code 2 (some (.int)) ∈ xTs := xt_5 179 rfl rfl
theorem xp_X11_estate : (⟨"MirrorHeirs", "estate", "(I)I"⟩ : MethodName).cls ≠ "java/lang/invoke/MethodHandle" ∧ (⟨"MirrorHeirs", "estate", "(I)I"⟩ : MethodName).cls ≠ "java/lang/invoke/VarHandle" ∧ (parseMethodDescriptor (⟨"MirrorHeirs", "estate", "(I)I"⟩ : MethodName).desc).map (fun d => d.parameters.length) = some 1 := by decide +kernel
theorem xs_X11_fault : Cond.instanceMethod ⟨"MirrorHeirs", "fault", "()I"⟩ ∈ xTs := xt_5 103 rfl rfl
theorem xq_X11_fault : Cond.selects "MirrorHeirs" ⟨"MirrorHeirs", "fault", "()I"⟩ ⟨"MirrorHeirs", "fault", "()I"⟩ ∈ xTs := xt_5 104 rfl rfl
theorem xz_X11_fault : Cond.initialized "MirrorHeirs" ∈ xTs := xt_1 1 rfl rfl
theorem xe_X11_fault : Cond.code ⟨"MirrorHeirs", "fault", "()I"⟩ prog_1_method_19_code 1 (some (.int)) ∈ xTs := xt_5 105 rfl rfl
theorem xp_X11_fault : (⟨"MirrorHeirs", "fault", "()I"⟩ : MethodName).cls ≠ "java/lang/invoke/MethodHandle" ∧ (⟨"MirrorHeirs", "fault", "()I"⟩ : MethodName).cls ≠ "java/lang/invoke/VarHandle" ∧ (parseMethodDescriptor (⟨"MirrorHeirs", "fault", "()I"⟩ : MethodName).desc).map (fun d => d.parameters.length) = some 0 := by decide +kernel
theorem xs_X11_feed : Cond.instanceMethod ⟨"MirrorHeirs", "feed", "(IIIII)I"⟩ ∈ xTs := xt_3 182 rfl rfl
theorem xq_X11_feed : Cond.selects "MirrorHeirs" ⟨"MirrorHeirs", "feed", "(IIIII)I"⟩ ⟨"MirrorHeirs", "feed", "(IIIII)I"⟩ ∈ xTs := xt_3 183 rfl rfl
theorem xz_X11_feed : Cond.initialized "MirrorHeirs" ∈ xTs := xt_1 1 rfl rfl
theorem xe_X11_feed : Cond.code ⟨"MirrorHeirs", "feed", "(IIIII)I"⟩ prog_1_method_13_code 6 (some (.int)) ∈ xTs := xt_3 184 rfl rfl
theorem xp_X11_feed : (⟨"MirrorHeirs", "feed", "(IIIII)I"⟩ : MethodName).cls ≠ "java/lang/invoke/MethodHandle" ∧ (⟨"MirrorHeirs", "feed", "(IIIII)I"⟩ : MethodName).cls ≠ "java/lang/invoke/VarHandle" ∧ (parseMethodDescriptor (⟨"MirrorHeirs", "feed", "(IIIII)I"⟩ : MethodName).desc).map (fun d => d.parameters.length) = some 5 := by decide +kernel
theorem xs_X11_force : Cond.instanceMethod ⟨"MirrorHeirs", "force", "(I)I"⟩ ∈ xTs := xt_5 111 rfl rfl
theorem xq_X11_force : Cond.selects "MirrorHeirs" ⟨"MirrorHeirs", "force", "(I)I"⟩ ⟨"MirrorHeirs", "force", "(I)I"⟩ ∈ xTs := xt_5 112 rfl rfl
theorem xz_X11_force : Cond.initialized "MirrorHeirs" ∈ xTs := xt_1 1 rfl rfl
theorem xe_X11_force : Cond.code ⟨"MirrorHeirs", "force", "(I)I"⟩ prog_1_method_21_code 3 (some (.int)) ∈ xTs := xt_5 113 rfl rfl
theorem xp_X11_force : (⟨"MirrorHeirs", "force", "(I)I"⟩ : MethodName).cls ≠ "java/lang/invoke/MethodHandle" ∧ (⟨"MirrorHeirs", "force", "(I)I"⟩ : MethodName).cls ≠ "java/lang/invoke/VarHandle" ∧ (parseMethodDescriptor (⟨"MirrorHeirs", "force", "(I)I"⟩ : MethodName).desc).map (fun d => d.parameters.length) = some 1 := by decide +kernel
theorem xs_X11_forget : Cond.instanceMethod ⟨"MirrorHeirs", "forget", "()I"⟩ ∈ xTs := xt_6 58 rfl rfl
theorem xq_X11_forget : Cond.selects "MirrorHeirs" ⟨"MirrorHeirs", "forget", "()I"⟩ ⟨"MirrorHeirs", "forget", "()I"⟩ ∈ xTs := xt_6 59 rfl rfl
theorem xz_X11_forget : Cond.initialized "MirrorHeirs" ∈ xTs := xt_1 1 rfl rfl
theorem xe_X11_forget : Cond.code ⟨"MirrorHeirs", "forget", "()I"⟩ prog_1_method_35_code 2 (some (.int)) ∈ xTs := xt_6 60 rfl rfl
theorem xp_X11_forget : (⟨"MirrorHeirs", "forget", "()I"⟩ : MethodName).cls ≠ "java/lang/invoke/MethodHandle" ∧ (⟨"MirrorHeirs", "forget", "()I"⟩ : MethodName).cls ≠ "java/lang/invoke/VarHandle" ∧ (parseMethodDescriptor (⟨"MirrorHeirs", "forget", "()I"⟩ : MethodName).desc).map (fun d => d.parameters.length) = some 0 := by decide +kernel
theorem xs_X11_glance : Cond.instanceMethod ⟨"MirrorHeirs", "glance", "(II)I"⟩ ∈ xTs := xt_5 123 rfl rfl
theorem xq_X11_glance : Cond.selects "MirrorHeirs" ⟨"MirrorHeirs", "glance", "(II)I"⟩ ⟨"MirrorHeirs", "glance", "(II)I"⟩ ∈ xTs := xt_5 124 rfl rfl
theorem xz_X11_glance : Cond.initialized "MirrorHeirs" ∈ xTs := xt_1 1 rfl rfl
theorem xe_X11_glance : Cond.code ⟨"MirrorHeirs", "glance", "(II)I"⟩ prog_1_method_23_code 3 (some (.int)) ∈ xTs := xt_5 125 rfl rfl
theorem xp_X11_glance : (⟨"MirrorHeirs", "glance", "(II)I"⟩ : MethodName).cls ≠ "java/lang/invoke/MethodHandle" ∧ (⟨"MirrorHeirs", "glance", "(II)I"⟩ : MethodName).cls ≠ "java/lang/invoke/VarHandle" ∧ (parseMethodDescriptor (⟨"MirrorHeirs", "glance", "(II)I"⟩ : MethodName).desc).map (fun d => d.parameters.length) = some 2 := by decide +kernel
theorem xs_X11_granted : Cond.instanceMethod ⟨"MirrorHeirs", "granted", "(I)I"⟩ ∈ xTs := xt_3 77 rfl rfl
theorem xq_X11_granted : Cond.selects "MirrorHeirs" ⟨"MirrorHeirs", "granted", "(I)I"⟩ ⟨"MirrorHeirs", "granted", "(I)I"⟩ ∈ xTs := xp1 1 rfl
theorem xz_X11_granted : Cond.initialized "MirrorHeirs" ∈ xTs := xt_1 1 rfl rfl
theorem xe_X11_granted : Cond.code ⟨"MirrorHeirs", "granted", "(I)I"⟩ prog_1_method_48_code 2 (some (.int)) ∈ xTs := xt_3 78 rfl rfl
theorem xp_X11_granted : (⟨"MirrorHeirs", "granted", "(I)I"⟩ : MethodName).cls ≠ "java/lang/invoke/MethodHandle" ∧ (⟨"MirrorHeirs", "granted", "(I)I"⟩ : MethodName).cls ≠ "java/lang/invoke/VarHandle" ∧ (parseMethodDescriptor (⟨"MirrorHeirs", "granted", "(I)I"⟩ : MethodName).desc).map (fun d => d.parameters.length) = some 1 := by decide +kernel
theorem xs_X11_greatestDivisor : Cond.static ⟨"MirrorHeirs", "greatestDivisor", "(II)I"⟩ ∈ xTs := xt_5 154 rfl rfl
theorem xz_X11_greatestDivisor : Cond.initialized "MirrorHeirs" ∈ xTs := xt_1 1 rfl rfl
theorem xe_X11_greatestDivisor : Cond.code ⟨"MirrorHeirs", "greatestDivisor", "(II)I"⟩ prog_1_method_57_code 6 (some (.int)) ∈ xTs := xt_5 155 rfl rfl
theorem xp_X11_greatestDivisor : (⟨"MirrorHeirs", "greatestDivisor", "(II)I"⟩ : MethodName).cls ≠ "java/lang/invoke/MethodHandle" ∧ (⟨"MirrorHeirs", "greatestDivisor", "(II)I"⟩ : MethodName).cls ≠ "java/lang/invoke/VarHandle" ∧ (parseMethodDescriptor (⟨"MirrorHeirs", "greatestDivisor", "(II)I"⟩ : MethodName).desc).map (fun d => d.parameters.length) = some 2 := by decide +kernel
theorem xs_X11_heir : Cond.instanceMethod ⟨"MirrorHeirs", "heir", "(II)I"⟩ ∈ xTs := xt_3 136 rfl rfl
theorem xq_X11_heir : Cond.selects "MirrorHeirs" ⟨"MirrorHeirs", "heir", "(II)I"⟩ ⟨"MirrorHeirs", "heir", "(II)I"⟩ ∈ xTs := xt_3 137 rfl rfl
theorem xz_X11_heir : Cond.initialized "MirrorHeirs" ∈ xTs := xt_1 1 rfl rfl
theorem xe_X11_heir : Cond.code ⟨"MirrorHeirs", "heir", "(II)I"⟩ prog_1_method_7_code 3 (some (.int)) ∈ xTs := xt_3 138 rfl rfl
theorem xp_X11_heir : (⟨"MirrorHeirs", "heir", "(II)I"⟩ : MethodName).cls ≠ "java/lang/invoke/MethodHandle" ∧ (⟨"MirrorHeirs", "heir", "(II)I"⟩ : MethodName).cls ≠ "java/lang/invoke/VarHandle" ∧ (parseMethodDescriptor (⟨"MirrorHeirs", "heir", "(II)I"⟩ : MethodName).desc).map (fun d => d.parameters.length) = some 2 := by decide +kernel
theorem xs_X11_hide : Cond.instanceMethod ⟨"MirrorHeirs", "hide", "(III)I"⟩ ∈ xTs := xt_6 76 rfl rfl
theorem xq_X11_hide : Cond.selects "MirrorHeirs" ⟨"MirrorHeirs", "hide", "(III)I"⟩ ⟨"MirrorHeirs", "hide", "(III)I"⟩ ∈ xTs := xt_6 77 rfl rfl
theorem xz_X11_hide : Cond.initialized "MirrorHeirs" ∈ xTs := xt_1 1 rfl rfl
theorem xe_X11_hide : Cond.code ⟨"MirrorHeirs", "hide", "(III)I"⟩ prog_1_method_37_code 6 (some (.int)) ∈ xTs := xt_6 78 rfl rfl
theorem xp_X11_hide : (⟨"MirrorHeirs", "hide", "(III)I"⟩ : MethodName).cls ≠ "java/lang/invoke/MethodHandle" ∧ (⟨"MirrorHeirs", "hide", "(III)I"⟩ : MethodName).cls ≠ "java/lang/invoke/VarHandle" ∧ (parseMethodDescriptor (⟨"MirrorHeirs", "hide", "(III)I"⟩ : MethodName).desc).map (fun d => d.parameters.length) = some 3 := by decide +kernel
theorem xs_X11_hides : Cond.instanceMethod ⟨"MirrorHeirs", "hides", "(I)I"⟩ ∈ xTs := xt_6 86 rfl rfl
theorem xq_X11_hides : Cond.selects "MirrorHeirs" ⟨"MirrorHeirs", "hides", "(I)I"⟩ ⟨"MirrorHeirs", "hides", "(I)I"⟩ ∈ xTs := xt_6 87 rfl rfl
theorem xz_X11_hides : Cond.initialized "MirrorHeirs" ∈ xTs := xt_1 1 rfl rfl
theorem xe_X11_hides : Cond.code ⟨"MirrorHeirs", "hides", "(I)I"⟩ prog_1_method_38_code 2 (some (.int)) ∈ xTs := xt_6 88 rfl rfl
theorem xp_X11_hides : (⟨"MirrorHeirs", "hides", "(I)I"⟩ : MethodName).cls ≠ "java/lang/invoke/MethodHandle" ∧ (⟨"MirrorHeirs", "hides", "(I)I"⟩ : MethodName).cls ≠ "java/lang/invoke/VarHandle" ∧ (parseMethodDescriptor (⟨"MirrorHeirs", "hides", "(I)I"⟩ : MethodName).desc).map (fun d => d.parameters.length) = some 1 := by decide +kernel
theorem xs_X11_hint : Cond.instanceMethod ⟨"MirrorHeirs", "hint", "(II)I"⟩ ∈ xTs := xt_6 39 rfl rfl
theorem xq_X11_hint : Cond.selects "MirrorHeirs" ⟨"MirrorHeirs", "hint", "(II)I"⟩ ⟨"MirrorHeirs", "hint", "(II)I"⟩ ∈ xTs := xt_6 40 rfl rfl
theorem xz_X11_hint : Cond.initialized "MirrorHeirs" ∈ xTs := xt_1 1 rfl rfl
theorem xe_X11_hint : Cond.code ⟨"MirrorHeirs", "hint", "(II)I"⟩ prog_1_method_33_code 3 (some (.int)) ∈ xTs := xt_6 41 rfl rfl
theorem xp_X11_hint : (⟨"MirrorHeirs", "hint", "(II)I"⟩ : MethodName).cls ≠ "java/lang/invoke/MethodHandle" ∧ (⟨"MirrorHeirs", "hint", "(II)I"⟩ : MethodName).cls ≠ "java/lang/invoke/VarHandle" ∧ (parseMethodDescriptor (⟨"MirrorHeirs", "hint", "(II)I"⟩ : MethodName).desc).map (fun d => d.parameters.length) = some 2 := by decide +kernel
theorem xs_X11_image : Cond.instanceMethod ⟨"MirrorHeirs", "image", "(I)I"⟩ ∈ xTs := xt_6 176 rfl rfl
theorem xq_X11_image : Cond.selects "MirrorHeirs" ⟨"MirrorHeirs", "image", "(I)I"⟩ ⟨"MirrorHeirs", "image", "(I)I"⟩ ∈ xTs := xt_6 177 rfl rfl
theorem xz_X11_image : Cond.initialized "MirrorHeirs" ∈ xTs := xt_1 1 rfl rfl
theorem xe_X11_image : Cond.code ⟨"MirrorHeirs", "image", "(I)I"⟩ prog_1_method_43_code 2 (some (.int)) ∈ xTs := xt_6 178 rfl rfl
theorem xp_X11_image : (⟨"MirrorHeirs", "image", "(I)I"⟩ : MethodName).cls ≠ "java/lang/invoke/MethodHandle" ∧ (⟨"MirrorHeirs", "image", "(I)I"⟩ : MethodName).cls ≠ "java/lang/invoke/VarHandle" ∧ (parseMethodDescriptor (⟨"MirrorHeirs", "image", "(I)I"⟩ : MethodName).desc).map (fun d => d.parameters.length) = some 1 := by decide +kernel
theorem xs_X11_init : Cond.instanceMethod ⟨"MirrorHeirs", "<init>", "()V"⟩ ∈ xTs := xt_1 25 rfl rfl
theorem xz_X11_init : Cond.initialized "MirrorHeirs" ∈ xTs := xt_1 1 rfl rfl
theorem xe_X11_init : Cond.code ⟨"MirrorHeirs", "<init>", "()V"⟩ prog_1_method_1_code 5 none ∈ xTs := xt_1 26 rfl rfl
theorem xp_X11_init : (⟨"MirrorHeirs", "<init>", "()V"⟩ : MethodName).cls ≠ "java/lang/invoke/MethodHandle" ∧ (⟨"MirrorHeirs", "<init>", "()V"⟩ : MethodName).cls ≠ "java/lang/invoke/VarHandle" ∧ (parseMethodDescriptor (⟨"MirrorHeirs", "<init>", "()V"⟩ : MethodName).desc).map (fun d => d.parameters.length) = some 0 := by decide +kernel
theorem xs_X11_isCell : Cond.static ⟨"MirrorHeirs", "isCell", "(I)Z"⟩ ∈ xTs := xt_3 26 rfl rfl
theorem xz_X11_isCell : Cond.initialized "MirrorHeirs" ∈ xTs := xt_1 1 rfl rfl
theorem xe_X11_isCell : Cond.code ⟨"MirrorHeirs", "isCell", "(I)Z"⟩ prog_1_method_59_code 1 (some (.boolean)) ∈ xTs := xt_3 27 rfl rfl
theorem xp_X11_isCell : (⟨"MirrorHeirs", "isCell", "(I)Z"⟩ : MethodName).cls ≠ "java/lang/invoke/MethodHandle" ∧ (⟨"MirrorHeirs", "isCell", "(I)Z"⟩ : MethodName).cls ≠ "java/lang/invoke/VarHandle" ∧ (parseMethodDescriptor (⟨"MirrorHeirs", "isCell", "(I)Z"⟩ : MethodName).desc).map (fun d => d.parameters.length) = some 1 := by decide +kernel
theorem xs_X11_isGlass : Cond.static ⟨"MirrorHeirs", "isGlass", "(I)Z"⟩ ∈ xTs := xt_3 92 rfl rfl
theorem xz_X11_isGlass : Cond.initialized "MirrorHeirs" ∈ xTs := xt_1 1 rfl rfl
theorem xe_X11_isGlass : Cond.code ⟨"MirrorHeirs", "isGlass", "(I)Z"⟩ prog_1_method_61_code 1 (some (.boolean)) ∈ xTs := xt_3 93 rfl rfl
theorem xp_X11_isGlass : (⟨"MirrorHeirs", "isGlass", "(I)Z"⟩ : MethodName).cls ≠ "java/lang/invoke/MethodHandle" ∧ (⟨"MirrorHeirs", "isGlass", "(I)Z"⟩ : MethodName).cls ≠ "java/lang/invoke/VarHandle" ∧ (parseMethodDescriptor (⟨"MirrorHeirs", "isGlass", "(I)Z"⟩ : MethodName).desc).map (fun d => d.parameters.length) = some 1 := by decide +kernel
theorem xs_X11_isKind : Cond.static ⟨"MirrorHeirs", "isKind", "(I)Z"⟩ ∈ xTs := xt_3 29 rfl rfl
theorem xz_X11_isKind : Cond.initialized "MirrorHeirs" ∈ xTs := xt_1 1 rfl rfl
theorem xe_X11_isKind : Cond.code ⟨"MirrorHeirs", "isKind", "(I)Z"⟩ prog_1_method_60_code 1 (some (.boolean)) ∈ xTs := xt_3 30 rfl rfl
theorem xp_X11_isKind : (⟨"MirrorHeirs", "isKind", "(I)Z"⟩ : MethodName).cls ≠ "java/lang/invoke/MethodHandle" ∧ (⟨"MirrorHeirs", "isKind", "(I)Z"⟩ : MethodName).cls ≠ "java/lang/invoke/VarHandle" ∧ (parseMethodDescriptor (⟨"MirrorHeirs", "isKind", "(I)Z"⟩ : MethodName).desc).map (fun d => d.parameters.length) = some 1 := by decide +kernel
theorem xs_X11_isWithin : Cond.static ⟨"MirrorHeirs", "isWithin", "(III)Z"⟩ ∈ xTs := xt_3 89 rfl rfl
theorem xz_X11_isWithin : Cond.initialized "MirrorHeirs" ∈ xTs := xt_1 1 rfl rfl
theorem xe_X11_isWithin : Cond.code ⟨"MirrorHeirs", "isWithin", "(III)Z"⟩ prog_1_method_58_code 3 (some (.boolean)) ∈ xTs := xt_3 90 rfl rfl
theorem xp_X11_isWithin : (⟨"MirrorHeirs", "isWithin", "(III)Z"⟩ : MethodName).cls ≠ "java/lang/invoke/MethodHandle" ∧ (⟨"MirrorHeirs", "isWithin", "(III)Z"⟩ : MethodName).cls ≠ "java/lang/invoke/VarHandle" ∧ (parseMethodDescriptor (⟨"MirrorHeirs", "isWithin", "(III)Z"⟩ : MethodName).desc).map (fun d => d.parameters.length) = some 3 := by decide +kernel
theorem xs_X11_law : Cond.instanceMethod ⟨"MirrorHeirs", "law", "()I"⟩ ∈ xTs := xt_3 202 rfl rfl
theorem xq_X11_law : Cond.selects "MirrorHeirs" ⟨"MirrorHeirs", "law", "()I"⟩ ⟨"MirrorHeirs", "law", "()I"⟩ ∈ xTs := xt_3 203 rfl rfl
theorem xz_X11_law : Cond.initialized "MirrorHeirs" ∈ xTs := xt_1 1 rfl rfl
theorem xe_X11_law : Cond.code ⟨"MirrorHeirs", "law", "()I"⟩ prog_1_method_17_code 2 (some (.int)) ∈ xTs := xt_3 204 rfl rfl
theorem xp_X11_law : (⟨"MirrorHeirs", "law", "()I"⟩ : MethodName).cls ≠ "java/lang/invoke/MethodHandle" ∧ (⟨"MirrorHeirs", "law", "()I"⟩ : MethodName).cls ≠ "java/lang/invoke/VarHandle" ∧ (parseMethodDescriptor (⟨"MirrorHeirs", "law", "()I"⟩ : MethodName).desc).map (fun d => d.parameters.length) = some 0 := by decide +kernel
theorem xs_X11_lit : Cond.instanceMethod ⟨"MirrorHeirs", "lit", "(I)I"⟩ ∈ xTs := xt_5 182 rfl rfl
theorem xq_X11_lit : Cond.selects "MirrorHeirs" ⟨"MirrorHeirs", "lit", "(I)I"⟩ ⟨"MirrorHeirs", "lit", "(I)I"⟩ ∈ xTs := xt_5 183 rfl rfl
theorem xz_X11_lit : Cond.initialized "MirrorHeirs" ∈ xTs := xt_1 1 rfl rfl
theorem xe_X11_lit : Cond.code ⟨"MirrorHeirs", "lit", "(I)I"⟩ prog_1_method_29_code 2 (some (.int)) ∈ xTs := xt_5 184 rfl rfl
theorem xp_X11_lit : (⟨"MirrorHeirs", "lit", "(I)I"⟩ : MethodName).cls ≠ "java/lang/invoke/MethodHandle" ∧ (⟨"MirrorHeirs", "lit", "(I)I"⟩ : MethodName).cls ≠ "java/lang/invoke/VarHandle" ∧ (parseMethodDescriptor (⟨"MirrorHeirs", "lit", "(I)I"⟩ : MethodName).desc).map (fun d => d.parameters.length) = some 1 := by decide +kernel
theorem xs_X11_move : Cond.instanceMethod ⟨"MirrorHeirs", "move", "(II)I"⟩ ∈ xTs := xt_3 140 rfl rfl
theorem xq_X11_move : Cond.selects "MirrorHeirs" ⟨"MirrorHeirs", "move", "(II)I"⟩ ⟨"MirrorHeirs", "move", "(II)I"⟩ ∈ xTs := xt_3 141 rfl rfl
theorem xz_X11_move : Cond.initialized "MirrorHeirs" ∈ xTs := xt_1 1 rfl rfl
theorem xe_X11_move : Cond.code ⟨"MirrorHeirs", "move", "(II)I"⟩ prog_1_method_8_code 4 (some (.int)) ∈ xTs := xt_3 142 rfl rfl
theorem xp_X11_move : (⟨"MirrorHeirs", "move", "(II)I"⟩ : MethodName).cls ≠ "java/lang/invoke/MethodHandle" ∧ (⟨"MirrorHeirs", "move", "(II)I"⟩ : MethodName).cls ≠ "java/lang/invoke/VarHandle" ∧ (parseMethodDescriptor (⟨"MirrorHeirs", "move", "(II)I"⟩ : MethodName).desc).map (fun d => d.parameters.length) = some 2 := by decide +kernel
theorem xs_X11_of : Cond.instanceMethod ⟨"MirrorHeirs", "of", "(II)I"⟩ ∈ xTs := xt_3 107 rfl rfl
theorem xq_X11_of : Cond.selects "MirrorHeirs" ⟨"MirrorHeirs", "of", "(II)I"⟩ ⟨"MirrorHeirs", "of", "(II)I"⟩ ∈ xTs := xt_3 108 rfl rfl
theorem xz_X11_of : Cond.initialized "MirrorHeirs" ∈ xTs := xt_1 1 rfl rfl
theorem xe_X11_of : Cond.code ⟨"MirrorHeirs", "of", "(II)I"⟩ prog_1_method_5_code 3 (some (.int)) ∈ xTs := xt_3 109 rfl rfl
theorem xp_X11_of : (⟨"MirrorHeirs", "of", "(II)I"⟩ : MethodName).cls ≠ "java/lang/invoke/MethodHandle" ∧ (⟨"MirrorHeirs", "of", "(II)I"⟩ : MethodName).cls ≠ "java/lang/invoke/VarHandle" ∧ (parseMethodDescriptor (⟨"MirrorHeirs", "of", "(II)I"⟩ : MethodName).desc).map (fun d => d.parameters.length) = some 2 := by decide +kernel
theorem xs_X11_orders : Cond.instanceMethod ⟨"MirrorHeirs", "orders", "()I"⟩ ∈ xTs := xt_4 174 rfl rfl
theorem xq_X11_orders : Cond.selects "MirrorHeirs" ⟨"MirrorHeirs", "orders", "()I"⟩ ⟨"MirrorHeirs", "orders", "()I"⟩ ∈ xTs := xt_4 175 rfl rfl
theorem xz_X11_orders : Cond.initialized "MirrorHeirs" ∈ xTs := xt_1 1 rfl rfl
theorem xe_X11_orders : Cond.code ⟨"MirrorHeirs", "orders", "()I"⟩ prog_1_method_18_code 3 (some (.int)) ∈ xTs := xt_4 176 rfl rfl
theorem xp_X11_orders : (⟨"MirrorHeirs", "orders", "()I"⟩ : MethodName).cls ≠ "java/lang/invoke/MethodHandle" ∧ (⟨"MirrorHeirs", "orders", "()I"⟩ : MethodName).cls ≠ "java/lang/invoke/VarHandle" ∧ (parseMethodDescriptor (⟨"MirrorHeirs", "orders", "()I"⟩ : MethodName).desc).map (fun d => d.parameters.length) = some 0 := by decide +kernel
theorem xs_X11_owner : Cond.instanceMethod ⟨"MirrorHeirs", "owner", "(II)I"⟩ ∈ xTs := xt_5 160 rfl rfl
theorem xq_X11_owner : Cond.selects "MirrorHeirs" ⟨"MirrorHeirs", "owner", "(II)I"⟩ ⟨"MirrorHeirs", "owner", "(II)I"⟩ ∈ xTs := xt_5 161 rfl rfl
theorem xz_X11_owner : Cond.initialized "MirrorHeirs" ∈ xTs := xt_1 1 rfl rfl
theorem xe_X11_owner : Cond.code ⟨"MirrorHeirs", "owner", "(II)I"⟩ prog_1_method_27_code 4 (some (.int)) ∈ xTs := xt_5 162 rfl rfl
theorem xp_X11_owner : (⟨"MirrorHeirs", "owner", "(II)I"⟩ : MethodName).cls ≠ "java/lang/invoke/MethodHandle" ∧ (⟨"MirrorHeirs", "owner", "(II)I"⟩ : MethodName).cls ≠ "java/lang/invoke/VarHandle" ∧ (parseMethodDescriptor (⟨"MirrorHeirs", "owner", "(II)I"⟩ : MethodName).desc).map (fun d => d.parameters.length) = some 2 := by decide +kernel
theorem xs_X11_pair : Cond.instanceMethod ⟨"MirrorHeirs", "pair", "(II)I"⟩ ∈ xTs := xt_5 134 rfl rfl
theorem xq_X11_pair : Cond.selects "MirrorHeirs" ⟨"MirrorHeirs", "pair", "(II)I"⟩ ⟨"MirrorHeirs", "pair", "(II)I"⟩ ∈ xTs := xt_5 135 rfl rfl
theorem xz_X11_pair : Cond.initialized "MirrorHeirs" ∈ xTs := xt_1 1 rfl rfl
theorem xe_X11_pair : Cond.code ⟨"MirrorHeirs", "pair", "(II)I"⟩ prog_1_method_25_code 3 (some (.int)) ∈ xTs := xt_5 136 rfl rfl
theorem xp_X11_pair : (⟨"MirrorHeirs", "pair", "(II)I"⟩ : MethodName).cls ≠ "java/lang/invoke/MethodHandle" ∧ (⟨"MirrorHeirs", "pair", "(II)I"⟩ : MethodName).cls ≠ "java/lang/invoke/VarHandle" ∧ (parseMethodDescriptor (⟨"MirrorHeirs", "pair", "(II)I"⟩ : MethodName).desc).map (fun d => d.parameters.length) = some 2 := by decide +kernel
theorem xs_X11_peace : Cond.instanceMethod ⟨"MirrorHeirs", "peace", "(I)I"⟩ ∈ xTs := xt_6 95 rfl rfl
theorem xq_X11_peace : Cond.selects "MirrorHeirs" ⟨"MirrorHeirs", "peace", "(I)I"⟩ ⟨"MirrorHeirs", "peace", "(I)I"⟩ ∈ xTs := xt_6 96 rfl rfl
theorem xz_X11_peace : Cond.initialized "MirrorHeirs" ∈ xTs := xt_1 1 rfl rfl
theorem xe_X11_peace : Cond.code ⟨"MirrorHeirs", "peace", "(I)I"⟩ prog_1_method_39_code 2 (some (.int)) ∈ xTs := xt_6 97 rfl rfl
theorem xp_X11_peace : (⟨"MirrorHeirs", "peace", "(I)I"⟩ : MethodName).cls ≠ "java/lang/invoke/MethodHandle" ∧ (⟨"MirrorHeirs", "peace", "(I)I"⟩ : MethodName).cls ≠ "java/lang/invoke/VarHandle" ∧ (parseMethodDescriptor (⟨"MirrorHeirs", "peace", "(I)I"⟩ : MethodName).desc).map (fun d => d.parameters.length) = some 1 := by decide +kernel
theorem xs_X11_pick : Cond.static ⟨"MirrorHeirs", "pick", "(JI)I"⟩ ∈ xTs := xt_5 174 rfl rfl
theorem xz_X11_pick : Cond.initialized "MirrorHeirs" ∈ xTs := xt_1 1 rfl rfl
theorem xe_X11_pick : Cond.code ⟨"MirrorHeirs", "pick", "(JI)I"⟩ prog_1_method_56_code 5 (some (.int)) ∈ xTs := xt_5 175 rfl rfl
theorem xp_X11_pick : (⟨"MirrorHeirs", "pick", "(JI)I"⟩ : MethodName).cls ≠ "java/lang/invoke/MethodHandle" ∧ (⟨"MirrorHeirs", "pick", "(JI)I"⟩ : MethodName).cls ≠ "java/lang/invoke/VarHandle" ∧ (parseMethodDescriptor (⟨"MirrorHeirs", "pick", "(JI)I"⟩ : MethodName).desc).map (fun d => d.parameters.length) = some 2 := by decide +kernel
theorem xs_X11_pivot : Cond.instanceMethod ⟨"MirrorHeirs", "pivot", "(III)I"⟩ ∈ xTs := xt_3 85 rfl rfl
theorem xq_X11_pivot : Cond.selects "MirrorHeirs" ⟨"MirrorHeirs", "pivot", "(III)I"⟩ ⟨"MirrorHeirs", "pivot", "(III)I"⟩ ∈ xTs := xt_3 86 rfl rfl
theorem xz_X11_pivot : Cond.initialized "MirrorHeirs" ∈ xTs := xt_1 1 rfl rfl
theorem xe_X11_pivot : Cond.code ⟨"MirrorHeirs", "pivot", "(III)I"⟩ prog_1_method_4_code 4 (some (.int)) ∈ xTs := xt_3 87 rfl rfl
theorem xp_X11_pivot : (⟨"MirrorHeirs", "pivot", "(III)I"⟩ : MethodName).cls ≠ "java/lang/invoke/MethodHandle" ∧ (⟨"MirrorHeirs", "pivot", "(III)I"⟩ : MethodName).cls ≠ "java/lang/invoke/VarHandle" ∧ (parseMethodDescriptor (⟨"MirrorHeirs", "pivot", "(III)I"⟩ : MethodName).desc).map (fun d => d.parameters.length) = some 3 := by decide +kernel
theorem xs_X11_put : Cond.instanceMethod ⟨"MirrorHeirs", "put", "(II)I"⟩ ∈ xTs := xt_3 22 rfl rfl
theorem xq_X11_put : Cond.selects "MirrorHeirs" ⟨"MirrorHeirs", "put", "(II)I"⟩ ⟨"MirrorHeirs", "put", "(II)I"⟩ ∈ xTs := xt_3 23 rfl rfl
theorem xz_X11_put : Cond.initialized "MirrorHeirs" ∈ xTs := xt_1 1 rfl rfl
theorem xe_X11_put : Cond.code ⟨"MirrorHeirs", "put", "(II)I"⟩ prog_1_method_2_code 4 (some (.int)) ∈ xTs := xt_3 24 rfl rfl
theorem xp_X11_put : (⟨"MirrorHeirs", "put", "(II)I"⟩ : MethodName).cls ≠ "java/lang/invoke/MethodHandle" ∧ (⟨"MirrorHeirs", "put", "(II)I"⟩ : MethodName).cls ≠ "java/lang/invoke/VarHandle" ∧ (parseMethodDescriptor (⟨"MirrorHeirs", "put", "(II)I"⟩ : MethodName).desc).map (fun d => d.parameters.length) = some 2 := by decide +kernel
theorem xs_X11_quarrel : Cond.instanceMethod ⟨"MirrorHeirs", "quarrel", "(I)I"⟩ ∈ xTs := xt_6 136 rfl rfl
theorem xq_X11_quarrel : Cond.selects "MirrorHeirs" ⟨"MirrorHeirs", "quarrel", "(I)I"⟩ ⟨"MirrorHeirs", "quarrel", "(I)I"⟩ ∈ xTs := xt_6 137 rfl rfl
theorem xz_X11_quarrel : Cond.initialized "MirrorHeirs" ∈ xTs := xt_1 1 rfl rfl
theorem xe_X11_quarrel : Cond.code ⟨"MirrorHeirs", "quarrel", "(I)I"⟩ prog_1_method_40_code 3 (some (.int)) ∈ xTs := xt_6 138 rfl rfl
theorem xp_X11_quarrel : (⟨"MirrorHeirs", "quarrel", "(I)I"⟩ : MethodName).cls ≠ "java/lang/invoke/MethodHandle" ∧ (⟨"MirrorHeirs", "quarrel", "(I)I"⟩ : MethodName).cls ≠ "java/lang/invoke/VarHandle" ∧ (parseMethodDescriptor (⟨"MirrorHeirs", "quarrel", "(I)I"⟩ : MethodName).desc).map (fun d => d.parameters.length) = some 1 := by decide +kernel
theorem xs_X11_ray : Cond.instanceMethod ⟨"MirrorHeirs", "ray", "(III)I"⟩ ∈ xTs := xt_5 115 rfl rfl
theorem xq_X11_ray : Cond.selects "MirrorHeirs" ⟨"MirrorHeirs", "ray", "(III)I"⟩ ⟨"MirrorHeirs", "ray", "(III)I"⟩ ∈ xTs := xt_5 116 rfl rfl
theorem xz_X11_ray : Cond.initialized "MirrorHeirs" ∈ xTs := xt_1 1 rfl rfl
theorem xe_X11_ray : Cond.code ⟨"MirrorHeirs", "ray", "(III)I"⟩ prog_1_method_22_code 4 (some (.int)) ∈ xTs := xt_5 117 rfl rfl
theorem xp_X11_ray : (⟨"MirrorHeirs", "ray", "(III)I"⟩ : MethodName).cls ≠ "java/lang/invoke/MethodHandle" ∧ (⟨"MirrorHeirs", "ray", "(III)I"⟩ : MethodName).cls ≠ "java/lang/invoke/VarHandle" ∧ (parseMethodDescriptor (⟨"MirrorHeirs", "ray", "(III)I"⟩ : MethodName).desc).map (fun d => d.parameters.length) = some 3 := by decide +kernel
theorem xs_X11_refusalsBy : Cond.instanceMethod ⟨"MirrorHeirs", "refusalsBy", "(I)I"⟩ ∈ xTs := xt_6 190 rfl rfl
theorem xq_X11_refusalsBy : Cond.selects "MirrorHeirs" ⟨"MirrorHeirs", "refusalsBy", "(I)I"⟩ ⟨"MirrorHeirs", "refusalsBy", "(I)I"⟩ ∈ xTs := xp4 5 rfl
theorem xz_X11_refusalsBy : Cond.initialized "MirrorHeirs" ∈ xTs := xt_1 1 rfl rfl
theorem xe_X11_refusalsBy : Cond.code ⟨"MirrorHeirs", "refusalsBy", "(I)I"⟩ prog_1_method_51_code 3 (some (.int)) ∈ xTs := xt_6 191 rfl rfl
theorem xp_X11_refusalsBy : (⟨"MirrorHeirs", "refusalsBy", "(I)I"⟩ : MethodName).cls ≠ "java/lang/invoke/MethodHandle" ∧ (⟨"MirrorHeirs", "refusalsBy", "(I)I"⟩ : MethodName).cls ≠ "java/lang/invoke/VarHandle" ∧ (parseMethodDescriptor (⟨"MirrorHeirs", "refusalsBy", "(I)I"⟩ : MethodName).desc).map (fun d => d.parameters.length) = some 1 := by decide +kernel
theorem xs_X11_refused : Cond.instanceMethod ⟨"MirrorHeirs", "refused", "(I)I"⟩ ∈ xTs := xt_3 33 rfl rfl
theorem xq_X11_refused : Cond.selects "MirrorHeirs" ⟨"MirrorHeirs", "refused", "(I)I"⟩ ⟨"MirrorHeirs", "refused", "(I)I"⟩ ∈ xTs := xp1 0 rfl
theorem xz_X11_refused : Cond.initialized "MirrorHeirs" ∈ xTs := xt_1 1 rfl rfl
theorem xe_X11_refused : Cond.code ⟨"MirrorHeirs", "refused", "(I)I"⟩ prog_1_method_47_code 3 (some (.int)) ∈ xTs := xt_3 34 rfl rfl
theorem xp_X11_refused : (⟨"MirrorHeirs", "refused", "(I)I"⟩ : MethodName).cls ≠ "java/lang/invoke/MethodHandle" ∧ (⟨"MirrorHeirs", "refused", "(I)I"⟩ : MethodName).cls ≠ "java/lang/invoke/VarHandle" ∧ (parseMethodDescriptor (⟨"MirrorHeirs", "refused", "(I)I"⟩ : MethodName).desc).map (fun d => d.parameters.length) = some 1 := by decide +kernel
theorem xs_X11_reveal : Cond.instanceMethod ⟨"MirrorHeirs", "reveal", "(IIII)I"⟩ ∈ xTs := xt_6 63 rfl rfl
theorem xq_X11_reveal : Cond.selects "MirrorHeirs" ⟨"MirrorHeirs", "reveal", "(IIII)I"⟩ ⟨"MirrorHeirs", "reveal", "(IIII)I"⟩ ∈ xTs := xt_6 64 rfl rfl
theorem xz_X11_reveal : Cond.initialized "MirrorHeirs" ∈ xTs := xt_1 1 rfl rfl
theorem xe_X11_reveal : Cond.code ⟨"MirrorHeirs", "reveal", "(IIII)I"⟩ prog_1_method_36_code 6 (some (.int)) ∈ xTs := xt_6 65 rfl rfl
theorem xp_X11_reveal : (⟨"MirrorHeirs", "reveal", "(IIII)I"⟩ : MethodName).cls ≠ "java/lang/invoke/MethodHandle" ∧ (⟨"MirrorHeirs", "reveal", "(IIII)I"⟩ : MethodName).cls ≠ "java/lang/invoke/VarHandle" ∧ (parseMethodDescriptor (⟨"MirrorHeirs", "reveal", "(IIII)I"⟩ : MethodName).desc).map (fun d => d.parameters.length) = some 4 := by decide +kernel
theorem xs_X11_row : Cond.instanceMethod ⟨"MirrorHeirs", "row", "()I"⟩ ∈ xTs := xt_3 194 rfl rfl
theorem xq_X11_row : Cond.selects "MirrorHeirs" ⟨"MirrorHeirs", "row", "()I"⟩ ⟨"MirrorHeirs", "row", "()I"⟩ ∈ xTs := xt_3 195 rfl rfl
theorem xz_X11_row : Cond.initialized "MirrorHeirs" ∈ xTs := xt_1 1 rfl rfl
theorem xe_X11_row : Cond.code ⟨"MirrorHeirs", "row", "()I"⟩ prog_1_method_15_code 6 (some (.int)) ∈ xTs := xt_3 196 rfl rfl
theorem xp_X11_row : (⟨"MirrorHeirs", "row", "()I"⟩ : MethodName).cls ≠ "java/lang/invoke/MethodHandle" ∧ (⟨"MirrorHeirs", "row", "()I"⟩ : MethodName).cls ≠ "java/lang/invoke/VarHandle" ∧ (parseMethodDescriptor (⟨"MirrorHeirs", "row", "()I"⟩ : MethodName).desc).map (fun d => d.parameters.length) = some 0 := by decide +kernel
theorem xs_X11_sees : Cond.instanceMethod ⟨"MirrorHeirs", "sees", "(II)Z"⟩ ∈ xTs := xt_5 139 rfl rfl
theorem xq_X11_sees : Cond.selects "MirrorHeirs" ⟨"MirrorHeirs", "sees", "(II)Z"⟩ ⟨"MirrorHeirs", "sees", "(II)Z"⟩ ∈ xTs := xp3 4 rfl
theorem xz_X11_sees : Cond.initialized "MirrorHeirs" ∈ xTs := xt_1 1 rfl rfl
theorem xe_X11_sees : Cond.code ⟨"MirrorHeirs", "sees", "(II)Z"⟩ prog_1_method_53_code 3 (some (.boolean)) ∈ xTs := xt_5 140 rfl rfl
theorem xp_X11_sees : (⟨"MirrorHeirs", "sees", "(II)Z"⟩ : MethodName).cls ≠ "java/lang/invoke/MethodHandle" ∧ (⟨"MirrorHeirs", "sees", "(II)Z"⟩ : MethodName).cls ≠ "java/lang/invoke/VarHandle" ∧ (parseMethodDescriptor (⟨"MirrorHeirs", "sees", "(II)Z"⟩ : MethodName).desc).map (fun d => d.parameters.length) = some 2 := by decide +kernel
theorem xs_X11_stand : Cond.instanceMethod ⟨"MirrorHeirs", "stand", "(II)I"⟩ ∈ xTs := xt_5 192 rfl rfl
theorem xq_X11_stand : Cond.selects "MirrorHeirs" ⟨"MirrorHeirs", "stand", "(II)I"⟩ ⟨"MirrorHeirs", "stand", "(II)I"⟩ ∈ xTs := xt_5 193 rfl rfl
theorem xz_X11_stand : Cond.initialized "MirrorHeirs" ∈ xTs := xt_1 1 rfl rfl
theorem xe_X11_stand : Cond.code ⟨"MirrorHeirs", "stand", "(II)I"⟩ prog_1_method_30_code 3 (some (.int)) ∈ xTs := xt_5 194 rfl rfl
theorem xp_X11_stand : (⟨"MirrorHeirs", "stand", "(II)I"⟩ : MethodName).cls ≠ "java/lang/invoke/MethodHandle" ∧ (⟨"MirrorHeirs", "stand", "(II)I"⟩ : MethodName).cls ≠ "java/lang/invoke/VarHandle" ∧ (parseMethodDescriptor (⟨"MirrorHeirs", "stand", "(II)I"⟩ : MethodName).desc).map (fun d => d.parameters.length) = some 2 := by decide +kernel
theorem xs_X11_status : Cond.instanceMethod ⟨"MirrorHeirs", "status", "()I"⟩ ∈ xTs := xt_6 193 rfl rfl
theorem xq_X11_status : Cond.selects "MirrorHeirs" ⟨"MirrorHeirs", "status", "()I"⟩ ⟨"MirrorHeirs", "status", "()I"⟩ ∈ xTs := xt_6 194 rfl rfl
theorem xz_X11_status : Cond.initialized "MirrorHeirs" ∈ xTs := xt_1 1 rfl rfl
theorem xe_X11_status : Cond.code ⟨"MirrorHeirs", "status", "()I"⟩ prog_1_method_46_code 1 (some (.int)) ∈ xTs := xt_6 195 rfl rfl
theorem xp_X11_status : (⟨"MirrorHeirs", "status", "()I"⟩ : MethodName).cls ≠ "java/lang/invoke/MethodHandle" ∧ (⟨"MirrorHeirs", "status", "()I"⟩ : MethodName).cls ≠ "java/lang/invoke/VarHandle" ∧ (parseMethodDescriptor (⟨"MirrorHeirs", "status", "()I"⟩ : MethodName).desc).map (fun d => d.parameters.length) = some 0 := by decide +kernel
theorem xs_X11_step : Cond.static ⟨"MirrorHeirs", "step", "(II)I"⟩ ∈ xTs := xt_4 237 rfl rfl
theorem xz_X11_step : Cond.initialized "MirrorHeirs" ∈ xTs := xt_1 1 rfl rfl
theorem xe_X11_step : Cond.code ⟨"MirrorHeirs", "step", "(II)I"⟩ prog_1_method_63_code 2 (some (.int)) ∈ xTs := xt_4 238 rfl rfl
theorem xp_X11_step : (⟨"MirrorHeirs", "step", "(II)I"⟩ : MethodName).cls ≠ "java/lang/invoke/MethodHandle" ∧ (⟨"MirrorHeirs", "step", "(II)I"⟩ : MethodName).cls ≠ "java/lang/invoke/VarHandle" ∧ (parseMethodDescriptor (⟨"MirrorHeirs", "step", "(II)I"⟩ : MethodName).desc).map (fun d => d.parameters.length) = some 2 := by decide +kernel
theorem xs_X11_stopped : Cond.instanceMethod ⟨"MirrorHeirs", "stopped", "()I"⟩ ∈ xTs := xt_5 107 rfl rfl
theorem xq_X11_stopped : Cond.selects "MirrorHeirs" ⟨"MirrorHeirs", "stopped", "()I"⟩ ⟨"MirrorHeirs", "stopped", "()I"⟩ ∈ xTs := xt_5 108 rfl rfl
theorem xz_X11_stopped : Cond.initialized "MirrorHeirs" ∈ xTs := xt_1 1 rfl rfl
theorem xe_X11_stopped : Cond.code ⟨"MirrorHeirs", "stopped", "()I"⟩ prog_1_method_20_code 1 (some (.int)) ∈ xTs := xt_5 109 rfl rfl
theorem xp_X11_stopped : (⟨"MirrorHeirs", "stopped", "()I"⟩ : MethodName).cls ≠ "java/lang/invoke/MethodHandle" ∧ (⟨"MirrorHeirs", "stopped", "()I"⟩ : MethodName).cls ≠ "java/lang/invoke/VarHandle" ∧ (parseMethodDescriptor (⟨"MirrorHeirs", "stopped", "()I"⟩ : MethodName).desc).map (fun d => d.parameters.length) = some 0 := by decide +kernel
theorem xs_X11_stranger : Cond.instanceMethod ⟨"MirrorHeirs", "stranger", "(I)I"⟩ ∈ xTs := xt_6 43 rfl rfl
theorem xq_X11_stranger : Cond.selects "MirrorHeirs" ⟨"MirrorHeirs", "stranger", "(I)I"⟩ ⟨"MirrorHeirs", "stranger", "(I)I"⟩ ∈ xTs := xt_6 44 rfl rfl
theorem xz_X11_stranger : Cond.initialized "MirrorHeirs" ∈ xTs := xt_1 1 rfl rfl
theorem xe_X11_stranger : Cond.code ⟨"MirrorHeirs", "stranger", "(I)I"⟩ prog_1_method_34_code 2 (some (.int)) ∈ xTs := xt_6 45 rfl rfl
theorem xp_X11_stranger : (⟨"MirrorHeirs", "stranger", "(I)I"⟩ : MethodName).cls ≠ "java/lang/invoke/MethodHandle" ∧ (⟨"MirrorHeirs", "stranger", "(I)I"⟩ : MethodName).cls ≠ "java/lang/invoke/VarHandle" ∧ (parseMethodDescriptor (⟨"MirrorHeirs", "stranger", "(I)I"⟩ : MethodName).desc).map (fun d => d.parameters.length) = some 1 := by decide +kernel
theorem xs_X11_telling : Cond.instanceMethod ⟨"MirrorHeirs", "telling", "(III)I"⟩ ∈ xTs := xt_5 226 rfl rfl
theorem xq_X11_telling : Cond.selects "MirrorHeirs" ⟨"MirrorHeirs", "telling", "(III)I"⟩ ⟨"MirrorHeirs", "telling", "(III)I"⟩ ∈ xTs := xt_5 227 rfl rfl
theorem xz_X11_telling : Cond.initialized "MirrorHeirs" ∈ xTs := xt_1 1 rfl rfl
theorem xe_X11_telling : Cond.code ⟨"MirrorHeirs", "telling", "(III)I"⟩ prog_1_method_31_code 4 (some (.int)) ∈ xTs := xt_5 228 rfl rfl
theorem xp_X11_telling : (⟨"MirrorHeirs", "telling", "(III)I"⟩ : MethodName).cls ≠ "java/lang/invoke/MethodHandle" ∧ (⟨"MirrorHeirs", "telling", "(III)I"⟩ : MethodName).cls ≠ "java/lang/invoke/VarHandle" ∧ (parseMethodDescriptor (⟨"MirrorHeirs", "telling", "(III)I"⟩ : MethodName).desc).map (fun d => d.parameters.length) = some 3 := by decide +kernel
theorem xs_X11_terms : Cond.instanceMethod ⟨"MirrorHeirs", "terms", "(II)I"⟩ ∈ xTs := xt_3 166 rfl rfl
theorem xq_X11_terms : Cond.selects "MirrorHeirs" ⟨"MirrorHeirs", "terms", "(II)I"⟩ ⟨"MirrorHeirs", "terms", "(II)I"⟩ ∈ xTs := xt_3 167 rfl rfl
theorem xz_X11_terms : Cond.initialized "MirrorHeirs" ∈ xTs := xt_1 1 rfl rfl
theorem xe_X11_terms : Cond.code ⟨"MirrorHeirs", "terms", "(II)I"⟩ prog_1_method_12_code 4 (some (.int)) ∈ xTs := xt_3 168 rfl rfl
theorem xp_X11_terms : (⟨"MirrorHeirs", "terms", "(II)I"⟩ : MethodName).cls ≠ "java/lang/invoke/MethodHandle" ∧ (⟨"MirrorHeirs", "terms", "(II)I"⟩ : MethodName).cls ≠ "java/lang/invoke/VarHandle" ∧ (parseMethodDescriptor (⟨"MirrorHeirs", "terms", "(II)I"⟩ : MethodName).desc).map (fun d => d.parameters.length) = some 2 := by decide +kernel
theorem xs_X11_thing : Cond.instanceMethod ⟨"MirrorHeirs", "thing", "(III)I"⟩ ∈ xTs := xt_3 158 rfl rfl
theorem xq_X11_thing : Cond.selects "MirrorHeirs" ⟨"MirrorHeirs", "thing", "(III)I"⟩ ⟨"MirrorHeirs", "thing", "(III)I"⟩ ∈ xTs := xt_3 159 rfl rfl
theorem xz_X11_thing : Cond.initialized "MirrorHeirs" ∈ xTs := xt_1 1 rfl rfl
theorem xe_X11_thing : Cond.code ⟨"MirrorHeirs", "thing", "(III)I"⟩ prog_1_method_10_code 4 (some (.int)) ∈ xTs := xt_3 160 rfl rfl
theorem xp_X11_thing : (⟨"MirrorHeirs", "thing", "(III)I"⟩ : MethodName).cls ≠ "java/lang/invoke/MethodHandle" ∧ (⟨"MirrorHeirs", "thing", "(III)I"⟩ : MethodName).cls ≠ "java/lang/invoke/VarHandle" ∧ (parseMethodDescriptor (⟨"MirrorHeirs", "thing", "(III)I"⟩ : MethodName).desc).map (fun d => d.parameters.length) = some 3 := by decide +kernel
theorem xs_X11_turn : Cond.instanceMethod ⟨"MirrorHeirs", "turn", "(I)I"⟩ ∈ xTs := xt_3 112 rfl rfl
theorem xq_X11_turn : Cond.selects "MirrorHeirs" ⟨"MirrorHeirs", "turn", "(I)I"⟩ ⟨"MirrorHeirs", "turn", "(I)I"⟩ ∈ xTs := xt_3 113 rfl rfl
theorem xz_X11_turn : Cond.initialized "MirrorHeirs" ∈ xTs := xt_1 1 rfl rfl
theorem xe_X11_turn : Cond.code ⟨"MirrorHeirs", "turn", "(I)I"⟩ prog_1_method_6_code 2 (some (.int)) ∈ xTs := xt_3 114 rfl rfl
theorem xp_X11_turn : (⟨"MirrorHeirs", "turn", "(I)I"⟩ : MethodName).cls ≠ "java/lang/invoke/MethodHandle" ∧ (⟨"MirrorHeirs", "turn", "(I)I"⟩ : MethodName).cls ≠ "java/lang/invoke/VarHandle" ∧ (parseMethodDescriptor (⟨"MirrorHeirs", "turn", "(I)I"⟩ : MethodName).desc).map (fun d => d.parameters.length) = some 1 := by decide +kernel
theorem xs_X11_turned : Cond.instanceMethod ⟨"MirrorHeirs", "turned", "(I)I"⟩ ∈ xTs := xt_5 234 rfl rfl
theorem xq_X11_turned : Cond.selects "MirrorHeirs" ⟨"MirrorHeirs", "turned", "(I)I"⟩ ⟨"MirrorHeirs", "turned", "(I)I"⟩ ∈ xTs := xt_5 235 rfl rfl
theorem xz_X11_turned : Cond.initialized "MirrorHeirs" ∈ xTs := xt_1 1 rfl rfl
theorem xe_X11_turned : Cond.code ⟨"MirrorHeirs", "turned", "(I)I"⟩ prog_1_method_32_code 2 (some (.int)) ∈ xTs := xt_5 236 rfl rfl
theorem xp_X11_turned : (⟨"MirrorHeirs", "turned", "(I)I"⟩ : MethodName).cls ≠ "java/lang/invoke/MethodHandle" ∧ (⟨"MirrorHeirs", "turned", "(I)I"⟩ : MethodName).cls ≠ "java/lang/invoke/VarHandle" ∧ (parseMethodDescriptor (⟨"MirrorHeirs", "turned", "(I)I"⟩ : MethodName).desc).map (fun d => d.parameters.length) = some 1 := by decide +kernel
theorem xs_X11_turnedKind : Cond.static ⟨"MirrorHeirs", "turnedKind", "(I)I"⟩ ∈ xTs := xt_3 127 rfl rfl
theorem xz_X11_turnedKind : Cond.initialized "MirrorHeirs" ∈ xTs := xt_1 1 rfl rfl
theorem xe_X11_turnedKind : Cond.code ⟨"MirrorHeirs", "turnedKind", "(I)I"⟩ prog_1_method_62_code 1 (some (.int)) ∈ xTs := xt_3 128 rfl rfl
theorem xp_X11_turnedKind : (⟨"MirrorHeirs", "turnedKind", "(I)I"⟩ : MethodName).cls ≠ "java/lang/invoke/MethodHandle" ∧ (⟨"MirrorHeirs", "turnedKind", "(I)I"⟩ : MethodName).cls ≠ "java/lang/invoke/VarHandle" ∧ (parseMethodDescriptor (⟨"MirrorHeirs", "turnedKind", "(I)I"⟩ : MethodName).desc).map (fun d => d.parameters.length) = some 1 := by decide +kernel
theorem xs_X11_undo : Cond.instanceMethod ⟨"MirrorHeirs", "undo", "()I"⟩ ∈ xTs := xt_3 150 rfl rfl
theorem xq_X11_undo : Cond.selects "MirrorHeirs" ⟨"MirrorHeirs", "undo", "()I"⟩ ⟨"MirrorHeirs", "undo", "()I"⟩ ∈ xTs := xt_3 151 rfl rfl
theorem xz_X11_undo : Cond.initialized "MirrorHeirs" ∈ xTs := xt_1 1 rfl rfl
theorem xe_X11_undo : Cond.code ⟨"MirrorHeirs", "undo", "()I"⟩ prog_1_method_9_code 2 (some (.int)) ∈ xTs := xt_3 152 rfl rfl
theorem xp_X11_undo : (⟨"MirrorHeirs", "undo", "()I"⟩ : MethodName).cls ≠ "java/lang/invoke/MethodHandle" ∧ (⟨"MirrorHeirs", "undo", "()I"⟩ : MethodName).cls ≠ "java/lang/invoke/VarHandle" ∧ (parseMethodDescriptor (⟨"MirrorHeirs", "undo", "()I"⟩ : MethodName).desc).map (fun d => d.parameters.length) = some 0 := by decide +kernel
theorem xs_X11_views : Cond.instanceMethod ⟨"MirrorHeirs", "views", "(I)I"⟩ ∈ xTs := xt_5 129 rfl rfl
theorem xq_X11_views : Cond.selects "MirrorHeirs" ⟨"MirrorHeirs", "views", "(I)I"⟩ ⟨"MirrorHeirs", "views", "(I)I"⟩ ∈ xTs := xt_5 130 rfl rfl
theorem xz_X11_views : Cond.initialized "MirrorHeirs" ∈ xTs := xt_1 1 rfl rfl
theorem xe_X11_views : Cond.code ⟨"MirrorHeirs", "views", "(I)I"⟩ prog_1_method_24_code 2 (some (.int)) ∈ xTs := xt_5 131 rfl rfl
theorem xp_X11_views : (⟨"MirrorHeirs", "views", "(I)I"⟩ : MethodName).cls ≠ "java/lang/invoke/MethodHandle" ∧ (⟨"MirrorHeirs", "views", "(I)I"⟩ : MethodName).cls ≠ "java/lang/invoke/VarHandle" ∧ (parseMethodDescriptor (⟨"MirrorHeirs", "views", "(I)I"⟩ : MethodName).desc).map (fun d => d.parameters.length) = some 1 := by decide +kernel
theorem xs_X12_arePaired : Cond.instanceMethod ⟨"MirrorHeirsModel", "arePaired", "(II)Z"⟩ ∈ xTs := xt_9 9 rfl rfl
theorem xq_X12_arePaired : Cond.selects "MirrorHeirsModel" ⟨"MirrorHeirsModel", "arePaired", "(II)Z"⟩ ⟨"MirrorHeirsModel", "arePaired", "(II)Z"⟩ ∈ xTs := xp7 10 rfl
theorem xz_X12_arePaired : Cond.initialized "MirrorHeirsModel" ∈ xTs := xt_1 15 rfl rfl
theorem xe_X12_arePaired : Cond.code ⟨"MirrorHeirsModel", "arePaired", "(II)Z"⟩ prog_14_method_89_code 3 (some (.boolean)) ∈ xTs := xt_9 10 rfl rfl
theorem xp_X12_arePaired : (⟨"MirrorHeirsModel", "arePaired", "(II)Z"⟩ : MethodName).cls ≠ "java/lang/invoke/MethodHandle" ∧ (⟨"MirrorHeirsModel", "arePaired", "(II)Z"⟩ : MethodName).cls ≠ "java/lang/invoke/VarHandle" ∧ (parseMethodDescriptor (⟨"MirrorHeirsModel", "arePaired", "(II)Z"⟩ : MethodName).desc).map (fun d => d.parameters.length) = some 2 := by decide +kernel
theorem xs_X12_areSo : Cond.instanceMethod ⟨"MirrorHeirsModel", "areSo", "()Z"⟩ ∈ xTs := xt_9 67 rfl rfl
theorem xq_X12_areSo : Cond.selects "MirrorHeirsModel" ⟨"MirrorHeirsModel", "areSo", "()Z"⟩ ⟨"MirrorHeirsModel", "areSo", "()Z"⟩ ∈ xTs := xp8 0 rfl
theorem xz_X12_areSo : Cond.initialized "MirrorHeirsModel" ∈ xTs := xt_1 15 rfl rfl
theorem xe_X12_areSo : Cond.code ⟨"MirrorHeirsModel", "areSo", "()Z"⟩ prog_14_method_103_code 2 (some (.boolean)) ∈ xTs := xt_9 68 rfl rfl
theorem xp_X12_areSo : (⟨"MirrorHeirsModel", "areSo", "()Z"⟩ : MethodName).cls ≠ "java/lang/invoke/MethodHandle" ∧ (⟨"MirrorHeirsModel", "areSo", "()Z"⟩ : MethodName).cls ≠ "java/lang/invoke/VarHandle" ∧ (parseMethodDescriptor (⟨"MirrorHeirsModel", "areSo", "()Z"⟩ : MethodName).desc).map (fun d => d.parameters.length) = some 0 := by decide +kernel
theorem xs_X12_at : Cond.instanceMethod ⟨"MirrorHeirsModel", "at", "(II)I"⟩ ∈ xTs := xt_7 197 rfl rfl
theorem xq_X12_at : Cond.selects "MirrorHeirsModel" ⟨"MirrorHeirsModel", "at", "(II)I"⟩ ⟨"MirrorHeirsModel", "at", "(II)I"⟩ ∈ xTs := xt_7 198 rfl rfl
theorem xz_X12_at : Cond.initialized "MirrorHeirsModel" ∈ xTs := xt_1 15 rfl rfl
theorem xe_X12_at : Cond.code ⟨"MirrorHeirsModel", "at", "(II)I"⟩ prog_14_method_20_code 3 (some (.int)) ∈ xTs := xt_7 199 rfl rfl
theorem xp_X12_at : (⟨"MirrorHeirsModel", "at", "(II)I"⟩ : MethodName).cls ≠ "java/lang/invoke/MethodHandle" ∧ (⟨"MirrorHeirsModel", "at", "(II)I"⟩ : MethodName).cls ≠ "java/lang/invoke/VarHandle" ∧ (parseMethodDescriptor (⟨"MirrorHeirsModel", "at", "(II)I"⟩ : MethodName).desc).map (fun d => d.parameters.length) = some 2 := by decide +kernel
theorem xs_X12_back : Cond.instanceMethod ⟨"MirrorHeirsModel", "back", "(I)I"⟩ ∈ xTs := xt_7 166 rfl rfl
theorem xq_X12_back : Cond.selects "MirrorHeirsModel" ⟨"MirrorHeirsModel", "back", "(I)I"⟩ ⟨"MirrorHeirsModel", "back", "(I)I"⟩ ∈ xTs := xt_7 167 rfl rfl
theorem xz_X12_back : Cond.initialized "MirrorHeirsModel" ∈ xTs := xt_1 15 rfl rfl
theorem xe_X12_back : Cond.code ⟨"MirrorHeirsModel", "back", "(I)I"⟩ prog_14_method_8_code 3 (some (.int)) ∈ xTs := xt_7 168 rfl rfl
theorem xp_X12_back : (⟨"MirrorHeirsModel", "back", "(I)I"⟩ : MethodName).cls ≠ "java/lang/invoke/MethodHandle" ∧ (⟨"MirrorHeirsModel", "back", "(I)I"⟩ : MethodName).cls ≠ "java/lang/invoke/VarHandle" ∧ (parseMethodDescriptor (⟨"MirrorHeirsModel", "back", "(I)I"⟩ : MethodName).desc).map (fun d => d.parameters.length) = some 1 := by decide +kernel
theorem xs_X12_behind : Cond.static ⟨"MirrorHeirsModel", "behind", "(II)I"⟩ ∈ xTs := xt_8 210 rfl rfl
theorem xz_X12_behind : Cond.initialized "MirrorHeirsModel" ∈ xTs := xt_1 15 rfl rfl
theorem xe_X12_behind : Cond.code ⟨"MirrorHeirsModel", "behind", "(II)I"⟩ prog_14_method_80_code 2 (some (.int)) ∈ xTs := xt_8 211 rfl rfl
theorem xp_X12_behind : (⟨"MirrorHeirsModel", "behind", "(II)I"⟩ : MethodName).cls ≠ "java/lang/invoke/MethodHandle" ∧ (⟨"MirrorHeirsModel", "behind", "(II)I"⟩ : MethodName).cls ≠ "java/lang/invoke/VarHandle" ∧ (parseMethodDescriptor (⟨"MirrorHeirsModel", "behind", "(II)I"⟩ : MethodName).desc).map (fun d => d.parameters.length) = some 2 := by decide +kernel
theorem xs_X12_beside : Cond.static ⟨"MirrorHeirsModel", "beside", "(II)I"⟩ ∈ xTs := xt_8 203 rfl rfl
theorem xz_X12_beside : Cond.initialized "MirrorHeirsModel" ∈ xTs := xt_1 15 rfl rfl
theorem xe_X12_beside : Cond.code ⟨"MirrorHeirsModel", "beside", "(II)I"⟩ prog_14_method_78_code 4 (some (.int)) ∈ xTs := xt_8 204 rfl rfl
theorem xp_X12_beside : (⟨"MirrorHeirsModel", "beside", "(II)I"⟩ : MethodName).cls ≠ "java/lang/invoke/MethodHandle" ∧ (⟨"MirrorHeirsModel", "beside", "(II)I"⟩ : MethodName).cls ≠ "java/lang/invoke/VarHandle" ∧ (parseMethodDescriptor (⟨"MirrorHeirsModel", "beside", "(II)I"⟩ : MethodName).desc).map (fun d => d.parameters.length) = some 2 := by decide +kernel
theorem xs_X12_bothOf : Cond.instanceMethod ⟨"MirrorHeirsModel", "bothOf", "(Z)Z"⟩ ∈ xTs := xt_8 192 rfl rfl
theorem xq_X12_bothOf : Cond.selects "MirrorHeirsModel" ⟨"MirrorHeirsModel", "bothOf", "(Z)Z"⟩ ⟨"MirrorHeirsModel", "bothOf", "(Z)Z"⟩ ∈ xTs := xp7 1 rfl
theorem xz_X12_bothOf : Cond.initialized "MirrorHeirsModel" ∈ xTs := xt_1 15 rfl rfl
theorem xe_X12_bothOf : Cond.code ⟨"MirrorHeirsModel", "bothOf", "(Z)Z"⟩ prog_14_method_73_code 4 (some (.boolean)) ∈ xTs := xt_8 193 rfl rfl
theorem xp_X12_bothOf : (⟨"MirrorHeirsModel", "bothOf", "(Z)Z"⟩ : MethodName).cls ≠ "java/lang/invoke/MethodHandle" ∧ (⟨"MirrorHeirsModel", "bothOf", "(Z)Z"⟩ : MethodName).cls ≠ "java/lang/invoke/VarHandle" ∧ (parseMethodDescriptor (⟨"MirrorHeirsModel", "bothOf", "(Z)Z"⟩ : MethodName).desc).map (fun d => d.parameters.length) = some 1 := by decide +kernel
theorem xs_X12_bounded : Cond.instanceMethod ⟨"MirrorHeirsModel", "bounded", "(JZ)J"⟩ ∈ xTs := xt_8 182 rfl rfl
theorem xq_X12_bounded : Cond.selects "MirrorHeirsModel" ⟨"MirrorHeirsModel", "bounded", "(JZ)J"⟩ ⟨"MirrorHeirsModel", "bounded", "(JZ)J"⟩ ∈ xTs := xp6 15 rfl
theorem xz_X12_bounded : Cond.initialized "MirrorHeirsModel" ∈ xTs := xt_1 15 rfl rfl
theorem xe_X12_bounded : Cond.code ⟨"MirrorHeirsModel", "bounded", "(JZ)J"⟩ prog_14_method_68_code 4 (some (.long)) ∈ xTs := xt_8 183 rfl rfl
theorem xp_X12_bounded : (⟨"MirrorHeirsModel", "bounded", "(JZ)J"⟩ : MethodName).cls ≠ "java/lang/invoke/MethodHandle" ∧ (⟨"MirrorHeirsModel", "bounded", "(JZ)J"⟩ : MethodName).cls ≠ "java/lang/invoke/VarHandle" ∧ (parseMethodDescriptor (⟨"MirrorHeirsModel", "bounded", "(JZ)J"⟩ : MethodName).desc).map (fun d => d.parameters.length) = some 2 := by decide +kernel
theorem xs_X12_candle : Cond.instanceMethod ⟨"MirrorHeirsModel", "candle", "(I)I"⟩ ∈ xTs := xt_8 23 rfl rfl
theorem xq_X12_candle : Cond.selects "MirrorHeirsModel" ⟨"MirrorHeirsModel", "candle", "(I)I"⟩ ⟨"MirrorHeirsModel", "candle", "(I)I"⟩ ∈ xTs := xt_8 24 rfl rfl
theorem xz_X12_candle : Cond.initialized "MirrorHeirsModel" ∈ xTs := xt_1 15 rfl rfl
theorem xe_X12_candle : Cond.code ⟨"MirrorHeirsModel", "candle", "(I)I"⟩ prog_14_method_34_code 3 (some (.int)) ∈ xTs := xt_8 25 rfl rfl
theorem xp_X12_candle : (⟨"MirrorHeirsModel", "candle", "(I)I"⟩ : MethodName).cls ≠ "java/lang/invoke/MethodHandle" ∧ (⟨"MirrorHeirsModel", "candle", "(I)I"⟩ : MethodName).cls ≠ "java/lang/invoke/VarHandle" ∧ (parseMethodDescriptor (⟨"MirrorHeirsModel", "candle", "(I)I"⟩ : MethodName).desc).map (fun d => d.parameters.length) = some 1 := by decide +kernel
theorem xs_X12_claim : Cond.instanceMethod ⟨"MirrorHeirsModel", "claim", "(III)I"⟩ ∈ xTs := xt_9 16 rfl rfl
theorem xq_X12_claim : Cond.selects "MirrorHeirsModel" ⟨"MirrorHeirsModel", "claim", "(III)I"⟩ ⟨"MirrorHeirsModel", "claim", "(III)I"⟩ ∈ xTs := xt_9 17 rfl rfl
theorem xz_X12_claim : Cond.initialized "MirrorHeirsModel" ∈ xTs := xt_1 15 rfl rfl
theorem xe_X12_claim : Cond.code ⟨"MirrorHeirsModel", "claim", "(III)I"⟩ prog_14_method_94_code 6 (some (.int)) ∈ xTs := xt_9 18 rfl rfl
theorem xp_X12_claim : (⟨"MirrorHeirsModel", "claim", "(III)I"⟩ : MethodName).cls ≠ "java/lang/invoke/MethodHandle" ∧ (⟨"MirrorHeirsModel", "claim", "(III)I"⟩ : MethodName).cls ≠ "java/lang/invoke/VarHandle" ∧ (parseMethodDescriptor (⟨"MirrorHeirsModel", "claim", "(III)I"⟩ : MethodName).desc).map (fun d => d.parameters.length) = some 3 := by decide +kernel
theorem xs_X12_claimOf : Cond.instanceMethod ⟨"MirrorHeirsModel", "claimOf", "(II)I"⟩ ∈ xTs := xt_9 13 rfl rfl
theorem xq_X12_claimOf : Cond.selects "MirrorHeirsModel" ⟨"MirrorHeirsModel", "claimOf", "(II)I"⟩ ⟨"MirrorHeirsModel", "claimOf", "(II)I"⟩ ∈ xTs := xp7 11 rfl
theorem xz_X12_claimOf : Cond.initialized "MirrorHeirsModel" ∈ xTs := xt_1 15 rfl rfl
theorem xe_X12_claimOf : Cond.code ⟨"MirrorHeirsModel", "claimOf", "(II)I"⟩ prog_14_method_91_code 4 (some (.int)) ∈ xTs := xt_9 14 rfl rfl
theorem xp_X12_claimOf : (⟨"MirrorHeirsModel", "claimOf", "(II)I"⟩ : MethodName).cls ≠ "java/lang/invoke/MethodHandle" ∧ (⟨"MirrorHeirsModel", "claimOf", "(II)I"⟩ : MethodName).cls ≠ "java/lang/invoke/VarHandle" ∧ (parseMethodDescriptor (⟨"MirrorHeirsModel", "claimOf", "(II)I"⟩ : MethodName).desc).map (fun d => d.parameters.length) = some 2 := by decide +kernel
theorem xs_X12_codeAt : Cond.instanceMethod ⟨"MirrorHeirsModel", "codeAt", "(I)I"⟩ ∈ xTs := xt_8 162 rfl rfl
theorem xq_X12_codeAt : Cond.selects "MirrorHeirsModel" ⟨"MirrorHeirsModel", "codeAt", "(I)I"⟩ ⟨"MirrorHeirsModel", "codeAt", "(I)I"⟩ ∈ xTs := xp6 10 rfl
theorem xz_X12_codeAt : Cond.initialized "MirrorHeirsModel" ∈ xTs := xt_1 15 rfl rfl
theorem xe_X12_codeAt : Cond.code ⟨"MirrorHeirsModel", "codeAt", "(I)I"⟩ prog_14_method_66_code 2 (some (.int)) ∈ xTs := xt_8 163 rfl rfl
theorem xp_X12_codeAt : (⟨"MirrorHeirsModel", "codeAt", "(I)I"⟩ : MethodName).cls ≠ "java/lang/invoke/MethodHandle" ∧ (⟨"MirrorHeirsModel", "codeAt", "(I)I"⟩ : MethodName).cls ≠ "java/lang/invoke/VarHandle" ∧ (parseMethodDescriptor (⟨"MirrorHeirsModel", "codeAt", "(I)I"⟩ : MethodName).desc).map (fun d => d.parameters.length) = some 1 := by decide +kernel
theorem xs_X12_common : Cond.static ⟨"MirrorHeirsModel", "common", "(II)I"⟩ ∈ xTs := xt_9 24 rfl rfl
theorem xz_X12_common : Cond.initialized "MirrorHeirsModel" ∈ xTs := xt_1 15 rfl rfl
theorem xe_X12_common : Cond.code ⟨"MirrorHeirsModel", "common", "(II)I"⟩ prog_14_method_93_code 5 (some (.int)) ∈ xTs := xt_9 25 rfl rfl
theorem xp_X12_common : (⟨"MirrorHeirsModel", "common", "(II)I"⟩ : MethodName).cls ≠ "java/lang/invoke/MethodHandle" ∧ (⟨"MirrorHeirsModel", "common", "(II)I"⟩ : MethodName).cls ≠ "java/lang/invoke/VarHandle" ∧ (parseMethodDescriptor (⟨"MirrorHeirsModel", "common", "(II)I"⟩ : MethodName).desc).map (fun d => d.parameters.length) = some 2 := by decide +kernel
theorem xs_X12_count : Cond.instanceMethod ⟨"MirrorHeirsModel", "count", "(I)I"⟩ ∈ xTs := xt_9 159 rfl rfl
theorem xq_X12_count : Cond.selects "MirrorHeirsModel" ⟨"MirrorHeirsModel", "count", "(I)I"⟩ ⟨"MirrorHeirsModel", "count", "(I)I"⟩ ∈ xTs := xt_9 160 rfl rfl
theorem xz_X12_count : Cond.initialized "MirrorHeirsModel" ∈ xTs := xt_1 15 rfl rfl
theorem xe_X12_count : Cond.code ⟨"MirrorHeirsModel", "count", "(I)I"⟩ prog_14_method_126_code 2 (some (.int)) ∈ xTs := xt_9 161 rfl rfl
theorem xp_X12_count : (⟨"MirrorHeirsModel", "count", "(I)I"⟩ : MethodName).cls ≠ "java/lang/invoke/MethodHandle" ∧ (⟨"MirrorHeirsModel", "count", "(I)I"⟩ : MethodName).cls ≠ "java/lang/invoke/VarHandle" ∧ (parseMethodDescriptor (⟨"MirrorHeirsModel", "count", "(I)I"⟩ : MethodName).desc).map (fun d => d.parameters.length) = some 1 := by decide +kernel
theorem xs_X12_draughts : Cond.instanceMethod ⟨"MirrorHeirsModel", "draughts", "(II)I"⟩ ∈ xTs := xt_9 144 rfl rfl
theorem xq_X12_draughts : Cond.selects "MirrorHeirsModel" ⟨"MirrorHeirsModel", "draughts", "(II)I"⟩ ⟨"MirrorHeirsModel", "draughts", "(II)I"⟩ ∈ xTs := xt_9 145 rfl rfl
theorem xz_X12_draughts : Cond.initialized "MirrorHeirsModel" ∈ xTs := xt_1 15 rfl rfl
theorem xe_X12_draughts : Cond.code ⟨"MirrorHeirsModel", "draughts", "(II)I"⟩ prog_14_method_124_code 8 (some (.int)) ∈ xTs := xt_9 146 rfl rfl
theorem xp_X12_draughts : (⟨"MirrorHeirsModel", "draughts", "(II)I"⟩ : MethodName).cls ≠ "java/lang/invoke/MethodHandle" ∧ (⟨"MirrorHeirsModel", "draughts", "(II)I"⟩ : MethodName).cls ≠ "java/lang/invoke/VarHandle" ∧ (parseMethodDescriptor (⟨"MirrorHeirsModel", "draughts", "(II)I"⟩ : MethodName).desc).map (fun d => d.parameters.length) = some 2 := by decide +kernel
theorem xs_X12_drawn : Cond.instanceMethod ⟨"MirrorHeirsModel", "drawn", "(II)I"⟩ ∈ xTs := xt_9 155 rfl rfl
theorem xq_X12_drawn : Cond.selects "MirrorHeirsModel" ⟨"MirrorHeirsModel", "drawn", "(II)I"⟩ ⟨"MirrorHeirsModel", "drawn", "(II)I"⟩ ∈ xTs := xt_9 156 rfl rfl
theorem xz_X12_drawn : Cond.initialized "MirrorHeirsModel" ∈ xTs := xt_1 15 rfl rfl
theorem xe_X12_drawn : Cond.code ⟨"MirrorHeirsModel", "drawn", "(II)I"⟩ prog_14_method_125_code 3 (some (.int)) ∈ xTs := xt_9 157 rfl rfl
theorem xp_X12_drawn : (⟨"MirrorHeirsModel", "drawn", "(II)I"⟩ : MethodName).cls ≠ "java/lang/invoke/MethodHandle" ∧ (⟨"MirrorHeirsModel", "drawn", "(II)I"⟩ : MethodName).cls ≠ "java/lang/invoke/VarHandle" ∧ (parseMethodDescriptor (⟨"MirrorHeirsModel", "drawn", "(II)I"⟩ : MethodName).desc).map (fun d => d.parameters.length) = some 2 := by decide +kernel
theorem xs_X12_draws : Cond.instanceMethod ⟨"MirrorHeirsModel", "draws", "(I)I"⟩ ∈ xTs := xt_9 149 rfl rfl
theorem xq_X12_draws : Cond.selects "MirrorHeirsModel" ⟨"MirrorHeirsModel", "draws", "(I)I"⟩ ⟨"MirrorHeirsModel", "draws", "(I)I"⟩ ∈ xTs := xp8 8 rfl
theorem xz_X12_draws : Cond.initialized "MirrorHeirsModel" ∈ xTs := xt_1 15 rfl rfl
theorem xe_X12_draws : Cond.code ⟨"MirrorHeirsModel", "draws", "(I)I"⟩ prog_14_method_123_code 2 (some (.int)) ∈ xTs := xt_9 150 rfl rfl
theorem xp_X12_draws : (⟨"MirrorHeirsModel", "draws", "(I)I"⟩ : MethodName).cls ≠ "java/lang/invoke/MethodHandle" ∧ (⟨"MirrorHeirsModel", "draws", "(I)I"⟩ : MethodName).cls ≠ "java/lang/invoke/VarHandle" ∧ (parseMethodDescriptor (⟨"MirrorHeirsModel", "draws", "(I)I"⟩ : MethodName).desc).map (fun d => d.parameters.length) = some 1 := by decide +kernel
theorem xs_X12_dust : Cond.instanceMethod ⟨"MirrorHeirsModel", "dust", "()I"⟩ ∈ xTs := xt_8 35 rfl rfl
theorem xq_X12_dust : Cond.selects "MirrorHeirsModel" ⟨"MirrorHeirsModel", "dust", "()I"⟩ ⟨"MirrorHeirsModel", "dust", "()I"⟩ ∈ xTs := xt_8 36 rfl rfl
theorem xz_X12_dust : Cond.initialized "MirrorHeirsModel" ∈ xTs := xt_1 15 rfl rfl
theorem xe_X12_dust : Cond.code ⟨"MirrorHeirsModel", "dust", "()I"⟩ prog_14_method_37_code 1 (some (.int)) ∈ xTs := xt_8 37 rfl rfl
theorem xp_X12_dust : (⟨"MirrorHeirsModel", "dust", "()I"⟩ : MethodName).cls ≠ "java/lang/invoke/MethodHandle" ∧ (⟨"MirrorHeirsModel", "dust", "()I"⟩ : MethodName).cls ≠ "java/lang/invoke/VarHandle" ∧ (parseMethodDescriptor (⟨"MirrorHeirsModel", "dust", "()I"⟩ : MethodName).desc).map (fun d => d.parameters.length) = some 0 := by decide +kernel
theorem xs_X12_end : Cond.instanceMethod ⟨"MirrorHeirsModel", "end", "(I)I"⟩ ∈ xTs := xt_8 43 rfl rfl
theorem xq_X12_end : Cond.selects "MirrorHeirsModel" ⟨"MirrorHeirsModel", "end", "(I)I"⟩ ⟨"MirrorHeirsModel", "end", "(I)I"⟩ ∈ xTs := xt_8 44 rfl rfl
theorem xz_X12_end : Cond.initialized "MirrorHeirsModel" ∈ xTs := xt_1 15 rfl rfl
theorem xe_X12_end : Cond.code ⟨"MirrorHeirsModel", "end", "(I)I"⟩ prog_14_method_39_code 2 (some (.int)) ∈ xTs := xt_8 45 rfl rfl
theorem xp_X12_end : (⟨"MirrorHeirsModel", "end", "(I)I"⟩ : MethodName).cls ≠ "java/lang/invoke/MethodHandle" ∧ (⟨"MirrorHeirsModel", "end", "(I)I"⟩ : MethodName).cls ≠ "java/lang/invoke/VarHandle" ∧ (parseMethodDescriptor (⟨"MirrorHeirsModel", "end", "(I)I"⟩ : MethodName).desc).map (fun d => d.parameters.length) = some 1 := by decide +kernel
theorem xs_X12_estate : Cond.instanceMethod ⟨"MirrorHeirsModel", "estate", "(I)I"⟩ ∈ xTs := xt_9 31 rfl rfl
theorem xq_X12_estate : Cond.selects "MirrorHeirsModel" ⟨"MirrorHeirsModel", "estate", "(I)I"⟩ ⟨"MirrorHeirsModel", "estate", "(I)I"⟩ ∈ xTs := xt_9 32 rfl rfl
theorem xz_X12_estate : Cond.initialized "MirrorHeirsModel" ∈ xTs := xt_1 15 rfl rfl
theorem xe_X12_estate : Cond.code ⟨"MirrorHeirsModel", "estate", "(I)I"⟩ prog_14_method_96_code 2 (some (.int)) ∈ xTs := xt_9 33 rfl rfl
theorem xp_X12_estate : (⟨"MirrorHeirsModel", "estate", "(I)I"⟩ : MethodName).cls ≠ "java/lang/invoke/MethodHandle" ∧ (⟨"MirrorHeirsModel", "estate", "(I)I"⟩ : MethodName).cls ≠ "java/lang/invoke/VarHandle" ∧ (parseMethodDescriptor (⟨"MirrorHeirsModel", "estate", "(I)I"⟩ : MethodName).desc).map (fun d => d.parameters.length) = some 1 := by decide +kernel
theorem xs_X12_fault : Cond.instanceMethod ⟨"MirrorHeirsModel", "fault", "()I"⟩ ∈ xTs := xt_8 141 rfl rfl
theorem xq_X12_fault : Cond.selects "MirrorHeirsModel" ⟨"MirrorHeirsModel", "fault", "()I"⟩ ⟨"MirrorHeirsModel", "fault", "()I"⟩ ∈ xTs := xt_8 142 rfl rfl
theorem xz_X12_fault : Cond.initialized "MirrorHeirsModel" ∈ xTs := xt_1 15 rfl rfl
theorem xe_X12_fault : Cond.code ⟨"MirrorHeirsModel", "fault", "()I"⟩ prog_14_method_64_code 1 (some (.int)) ∈ xTs := xt_8 143 rfl rfl
theorem xp_X12_fault : (⟨"MirrorHeirsModel", "fault", "()I"⟩ : MethodName).cls ≠ "java/lang/invoke/MethodHandle" ∧ (⟨"MirrorHeirsModel", "fault", "()I"⟩ : MethodName).cls ≠ "java/lang/invoke/VarHandle" ∧ (parseMethodDescriptor (⟨"MirrorHeirsModel", "fault", "()I"⟩ : MethodName).desc).map (fun d => d.parameters.length) = some 0 := by decide +kernel
theorem xs_X12_faults : Cond.instanceMethod ⟨"MirrorHeirsModel", "faults", "()V"⟩ ∈ xTs := xt_8 106 rfl rfl
theorem xq_X12_faults : Cond.selects "MirrorHeirsModel" ⟨"MirrorHeirsModel", "faults", "()V"⟩ ⟨"MirrorHeirsModel", "faults", "()V"⟩ ∈ xTs := xp5 15 rfl
theorem xz_X12_faults : Cond.initialized "MirrorHeirsModel" ∈ xTs := xt_1 15 rfl rfl
theorem xe_X12_faults : Cond.code ⟨"MirrorHeirsModel", "faults", "()V"⟩ prog_14_method_45_code 1 none ∈ xTs := xt_8 107 rfl rfl
theorem xp_X12_faults : (⟨"MirrorHeirsModel", "faults", "()V"⟩ : MethodName).cls ≠ "java/lang/invoke/MethodHandle" ∧ (⟨"MirrorHeirsModel", "faults", "()V"⟩ : MethodName).cls ≠ "java/lang/invoke/VarHandle" ∧ (parseMethodDescriptor (⟨"MirrorHeirsModel", "faults", "()V"⟩ : MethodName).desc).map (fun d => d.parameters.length) = some 0 := by decide +kernel
theorem xs_X12_feed : Cond.instanceMethod ⟨"MirrorHeirsModel", "feed", "(IIIII)I"⟩ ∈ xTs := xt_8 39 rfl rfl
theorem xq_X12_feed : Cond.selects "MirrorHeirsModel" ⟨"MirrorHeirsModel", "feed", "(IIIII)I"⟩ ⟨"MirrorHeirsModel", "feed", "(IIIII)I"⟩ ∈ xTs := xt_8 40 rfl rfl
theorem xz_X12_feed : Cond.initialized "MirrorHeirsModel" ∈ xTs := xt_1 15 rfl rfl
theorem xe_X12_feed : Cond.code ⟨"MirrorHeirsModel", "feed", "(IIIII)I"⟩ prog_14_method_38_code 7 (some (.int)) ∈ xTs := xt_8 41 rfl rfl
theorem xp_X12_feed : (⟨"MirrorHeirsModel", "feed", "(IIIII)I"⟩ : MethodName).cls ≠ "java/lang/invoke/MethodHandle" ∧ (⟨"MirrorHeirsModel", "feed", "(IIIII)I"⟩ : MethodName).cls ≠ "java/lang/invoke/VarHandle" ∧ (parseMethodDescriptor (⟨"MirrorHeirsModel", "feed", "(IIIII)I"⟩ : MethodName).desc).map (fun d => d.parameters.length) = some 5 := by decide +kernel
theorem xs_X12_fine : Cond.instanceMethod ⟨"MirrorHeirsModel", "fine", "()Z"⟩ ∈ xTs := xt_8 87 rfl rfl
theorem xq_X12_fine : Cond.selects "MirrorHeirsModel" ⟨"MirrorHeirsModel", "fine", "()Z"⟩ ⟨"MirrorHeirsModel", "fine", "()Z"⟩ ∈ xTs := xp5 11 rfl
theorem xz_X12_fine : Cond.initialized "MirrorHeirsModel" ∈ xTs := xt_1 15 rfl rfl
theorem xe_X12_fine : Cond.code ⟨"MirrorHeirsModel", "fine", "()Z"⟩ prog_14_method_44_code 1 (some (.boolean)) ∈ xTs := xt_8 88 rfl rfl
theorem xp_X12_fine : (⟨"MirrorHeirsModel", "fine", "()Z"⟩ : MethodName).cls ≠ "java/lang/invoke/MethodHandle" ∧ (⟨"MirrorHeirsModel", "fine", "()Z"⟩ : MethodName).cls ≠ "java/lang/invoke/VarHandle" ∧ (parseMethodDescriptor (⟨"MirrorHeirsModel", "fine", "()Z"⟩ : MethodName).desc).map (fun d => d.parameters.length) = some 0 := by decide +kernel
theorem xs_X12_firstAt : Cond.instanceMethod ⟨"MirrorHeirsModel", "firstAt", "(IIII)I"⟩ ∈ xTs := xt_7 186 rfl rfl
theorem xq_X12_firstAt : Cond.selects "MirrorHeirsModel" ⟨"MirrorHeirsModel", "firstAt", "(IIII)I"⟩ ⟨"MirrorHeirsModel", "firstAt", "(IIII)I"⟩ ∈ xTs := xp4 10 rfl
theorem xz_X12_firstAt : Cond.initialized "MirrorHeirsModel" ∈ xTs := xt_1 15 rfl rfl
theorem xe_X12_firstAt : Cond.code ⟨"MirrorHeirsModel", "firstAt", "(IIII)I"⟩ prog_14_method_13_code 6 (some (.int)) ∈ xTs := xt_7 187 rfl rfl
theorem xp_X12_firstAt : (⟨"MirrorHeirsModel", "firstAt", "(IIII)I"⟩ : MethodName).cls ≠ "java/lang/invoke/MethodHandle" ∧ (⟨"MirrorHeirsModel", "firstAt", "(IIII)I"⟩ : MethodName).cls ≠ "java/lang/invoke/VarHandle" ∧ (parseMethodDescriptor (⟨"MirrorHeirsModel", "firstAt", "(IIII)I"⟩ : MethodName).desc).map (fun d => d.parameters.length) = some 4 := by decide +kernel
theorem xs_X12_force : Cond.instanceMethod ⟨"MirrorHeirsModel", "force", "(I)I"⟩ ∈ xTs := xt_8 145 rfl rfl
theorem xq_X12_force : Cond.selects "MirrorHeirsModel" ⟨"MirrorHeirsModel", "force", "(I)I"⟩ ⟨"MirrorHeirsModel", "force", "(I)I"⟩ ∈ xTs := xt_8 146 rfl rfl
theorem xz_X12_force : Cond.initialized "MirrorHeirsModel" ∈ xTs := xt_1 15 rfl rfl
theorem xe_X12_force : Cond.code ⟨"MirrorHeirsModel", "force", "(I)I"⟩ prog_14_method_65_code 3 (some (.int)) ∈ xTs := xt_8 147 rfl rfl
theorem xp_X12_force : (⟨"MirrorHeirsModel", "force", "(I)I"⟩ : MethodName).cls ≠ "java/lang/invoke/MethodHandle" ∧ (⟨"MirrorHeirsModel", "force", "(I)I"⟩ : MethodName).cls ≠ "java/lang/invoke/VarHandle" ∧ (parseMethodDescriptor (⟨"MirrorHeirsModel", "force", "(I)I"⟩ : MethodName).desc).map (fun d => d.parameters.length) = some 1 := by decide +kernel
theorem xs_X12_forget : Cond.instanceMethod ⟨"MirrorHeirsModel", "forget", "()I"⟩ ∈ xTs := xt_9 81 rfl rfl
theorem xq_X12_forget : Cond.selects "MirrorHeirsModel" ⟨"MirrorHeirsModel", "forget", "()I"⟩ ⟨"MirrorHeirsModel", "forget", "()I"⟩ ∈ xTs := xt_9 82 rfl rfl
theorem xz_X12_forget : Cond.initialized "MirrorHeirsModel" ∈ xTs := xt_1 15 rfl rfl
theorem xe_X12_forget : Cond.code ⟨"MirrorHeirsModel", "forget", "()I"⟩ prog_14_method_107_code 2 (some (.int)) ∈ xTs := xt_9 83 rfl rfl
theorem xp_X12_forget : (⟨"MirrorHeirsModel", "forget", "()I"⟩ : MethodName).cls ≠ "java/lang/invoke/MethodHandle" ∧ (⟨"MirrorHeirsModel", "forget", "()I"⟩ : MethodName).cls ≠ "java/lang/invoke/VarHandle" ∧ (parseMethodDescriptor (⟨"MirrorHeirsModel", "forget", "()I"⟩ : MethodName).desc).map (fun d => d.parameters.length) = some 0 := by decide +kernel
theorem xs_X12_glance : Cond.instanceMethod ⟨"MirrorHeirsModel", "glance", "(II)I"⟩ ∈ xTs := xt_8 216 rfl rfl
theorem xq_X12_glance : Cond.selects "MirrorHeirsModel" ⟨"MirrorHeirsModel", "glance", "(II)I"⟩ ⟨"MirrorHeirsModel", "glance", "(II)I"⟩ ∈ xTs := xt_8 217 rfl rfl
theorem xz_X12_glance : Cond.initialized "MirrorHeirsModel" ∈ xTs := xt_1 15 rfl rfl
theorem xe_X12_glance : Cond.code ⟨"MirrorHeirsModel", "glance", "(II)I"⟩ prog_14_method_85_code 3 (some (.int)) ∈ xTs := xt_8 218 rfl rfl
theorem xp_X12_glance : (⟨"MirrorHeirsModel", "glance", "(II)I"⟩ : MethodName).cls ≠ "java/lang/invoke/MethodHandle" ∧ (⟨"MirrorHeirsModel", "glance", "(II)I"⟩ : MethodName).cls ≠ "java/lang/invoke/VarHandle" ∧ (parseMethodDescriptor (⟨"MirrorHeirsModel", "glance", "(II)I"⟩ : MethodName).desc).map (fun d => d.parameters.length) = some 2 := by decide +kernel
theorem xs_X12_glanceOf : Cond.instanceMethod ⟨"MirrorHeirsModel", "glanceOf", "(II)I"⟩ ∈ xTs := xt_9 90 rfl rfl
theorem xq_X12_glanceOf : Cond.selects "MirrorHeirsModel" ⟨"MirrorHeirsModel", "glanceOf", "(II)I"⟩ ⟨"MirrorHeirsModel", "glanceOf", "(II)I"⟩ ∈ xTs := xp8 1 rfl
theorem xz_X12_glanceOf : Cond.initialized "MirrorHeirsModel" ∈ xTs := xt_1 15 rfl rfl
theorem xe_X12_glanceOf : Cond.code ⟨"MirrorHeirsModel", "glanceOf", "(II)I"⟩ prog_14_method_108_code 3 (some (.int)) ∈ xTs := xt_9 91 rfl rfl
theorem xp_X12_glanceOf : (⟨"MirrorHeirsModel", "glanceOf", "(II)I"⟩ : MethodName).cls ≠ "java/lang/invoke/MethodHandle" ∧ (⟨"MirrorHeirsModel", "glanceOf", "(II)I"⟩ : MethodName).cls ≠ "java/lang/invoke/VarHandle" ∧ (parseMethodDescriptor (⟨"MirrorHeirsModel", "glanceOf", "(II)I"⟩ : MethodName).desc).map (fun d => d.parameters.length) = some 2 := by decide +kernel
theorem xs_X12_goesAlong : Cond.instanceMethod ⟨"MirrorHeirsModel", "goesAlong", "(Z)V"⟩ ∈ xTs := xt_9 134 rfl rfl
theorem xq_X12_goesAlong : Cond.selects "MirrorHeirsModel" ⟨"MirrorHeirsModel", "goesAlong", "(Z)V"⟩ ⟨"MirrorHeirsModel", "goesAlong", "(Z)V"⟩ ∈ xTs := xp8 6 rfl
theorem xz_X12_goesAlong : Cond.initialized "MirrorHeirsModel" ∈ xTs := xt_1 15 rfl rfl
theorem xe_X12_goesAlong : Cond.code ⟨"MirrorHeirsModel", "goesAlong", "(Z)V"⟩ prog_14_method_119_code 4 none ∈ xTs := xt_9 135 rfl rfl
theorem xp_X12_goesAlong : (⟨"MirrorHeirsModel", "goesAlong", "(Z)V"⟩ : MethodName).cls ≠ "java/lang/invoke/MethodHandle" ∧ (⟨"MirrorHeirsModel", "goesAlong", "(Z)V"⟩ : MethodName).cls ≠ "java/lang/invoke/VarHandle" ∧ (parseMethodDescriptor (⟨"MirrorHeirsModel", "goesAlong", "(Z)V"⟩ : MethodName).desc).map (fun d => d.parameters.length) = some 1 := by decide +kernel
theorem xs_X12_goesOn : Cond.instanceMethod ⟨"MirrorHeirsModel", "goesOn", "(I)I"⟩ ∈ xTs := xt_8 225 rfl rfl
theorem xq_X12_goesOn : Cond.selects "MirrorHeirsModel" ⟨"MirrorHeirsModel", "goesOn", "(I)I"⟩ ⟨"MirrorHeirsModel", "goesOn", "(I)I"⟩ ∈ xTs := xp7 6 rfl
theorem xz_X12_goesOn : Cond.initialized "MirrorHeirsModel" ∈ xTs := xt_1 15 rfl rfl
theorem xe_X12_goesOn : Cond.code ⟨"MirrorHeirsModel", "goesOn", "(I)I"⟩ prog_14_method_83_code 8 (some (.int)) ∈ xTs := xt_8 226 rfl rfl
theorem xp_X12_goesOn : (⟨"MirrorHeirsModel", "goesOn", "(I)I"⟩ : MethodName).cls ≠ "java/lang/invoke/MethodHandle" ∧ (⟨"MirrorHeirsModel", "goesOn", "(I)I"⟩ : MethodName).cls ≠ "java/lang/invoke/VarHandle" ∧ (parseMethodDescriptor (⟨"MirrorHeirsModel", "goesOn", "(I)I"⟩ : MethodName).desc).map (fun d => d.parameters.length) = some 1 := by decide +kernel
theorem xs_X12_good : Cond.instanceMethod ⟨"MirrorHeirsModel", "good", "(I)I"⟩ ∈ xTs := xt_7 163 rfl rfl
theorem xq_X12_good : Cond.selects "MirrorHeirsModel" ⟨"MirrorHeirsModel", "good", "(I)I"⟩ ⟨"MirrorHeirsModel", "good", "(I)I"⟩ ∈ xTs := xp4 7 rfl
theorem xz_X12_good : Cond.initialized "MirrorHeirsModel" ∈ xTs := xt_1 15 rfl rfl
theorem xe_X12_good : Cond.code ⟨"MirrorHeirsModel", "good", "(I)I"⟩ prog_14_method_3_code 2 (some (.int)) ∈ xTs := xt_7 164 rfl rfl
theorem xp_X12_good : (⟨"MirrorHeirsModel", "good", "(I)I"⟩ : MethodName).cls ≠ "java/lang/invoke/MethodHandle" ∧ (⟨"MirrorHeirsModel", "good", "(I)I"⟩ : MethodName).cls ≠ "java/lang/invoke/VarHandle" ∧ (parseMethodDescriptor (⟨"MirrorHeirsModel", "good", "(I)I"⟩ : MethodName).desc).map (fun d => d.parameters.length) = some 1 := by decide +kernel
theorem xs_X12_heir : Cond.instanceMethod ⟨"MirrorHeirsModel", "heir", "(II)I"⟩ ∈ xTs := xt_7 239 rfl rfl
theorem xq_X12_heir : Cond.selects "MirrorHeirsModel" ⟨"MirrorHeirsModel", "heir", "(II)I"⟩ ⟨"MirrorHeirsModel", "heir", "(II)I"⟩ ∈ xTs := xt_8 0 rfl rfl
theorem xz_X12_heir : Cond.initialized "MirrorHeirsModel" ∈ xTs := xt_1 15 rfl rfl
theorem xe_X12_heir : Cond.code ⟨"MirrorHeirsModel", "heir", "(II)I"⟩ prog_14_method_27_code 4 (some (.int)) ∈ xTs := xt_8 1 rfl rfl
theorem xp_X12_heir : (⟨"MirrorHeirsModel", "heir", "(II)I"⟩ : MethodName).cls ≠ "java/lang/invoke/MethodHandle" ∧ (⟨"MirrorHeirsModel", "heir", "(II)I"⟩ : MethodName).cls ≠ "java/lang/invoke/VarHandle" ∧ (parseMethodDescriptor (⟨"MirrorHeirsModel", "heir", "(II)I"⟩ : MethodName).desc).map (fun d => d.parameters.length) = some 2 := by decide +kernel
theorem xs_X12_heirAt : Cond.instanceMethod ⟨"MirrorHeirsModel", "heirAt", "(I)I"⟩ ∈ xTs := xt_7 182 rfl rfl
theorem xq_X12_heirAt : Cond.selects "MirrorHeirsModel" ⟨"MirrorHeirsModel", "heirAt", "(I)I"⟩ ⟨"MirrorHeirsModel", "heirAt", "(I)I"⟩ ∈ xTs := xp4 9 rfl
theorem xz_X12_heirAt : Cond.initialized "MirrorHeirsModel" ∈ xTs := xt_1 15 rfl rfl
theorem xe_X12_heirAt : Cond.code ⟨"MirrorHeirsModel", "heirAt", "(I)I"⟩ prog_14_method_15_code 2 (some (.int)) ∈ xTs := xt_7 183 rfl rfl
theorem xp_X12_heirAt : (⟨"MirrorHeirsModel", "heirAt", "(I)I"⟩ : MethodName).cls ≠ "java/lang/invoke/MethodHandle" ∧ (⟨"MirrorHeirsModel", "heirAt", "(I)I"⟩ : MethodName).cls ≠ "java/lang/invoke/VarHandle" ∧ (parseMethodDescriptor (⟨"MirrorHeirsModel", "heirAt", "(I)I"⟩ : MethodName).desc).map (fun d => d.parameters.length) = some 1 := by decide +kernel
theorem xs_X12_hide : Cond.instanceMethod ⟨"MirrorHeirsModel", "hide", "(III)I"⟩ ∈ xTs := xt_9 93 rfl rfl
theorem xq_X12_hide : Cond.selects "MirrorHeirsModel" ⟨"MirrorHeirsModel", "hide", "(III)I"⟩ ⟨"MirrorHeirsModel", "hide", "(III)I"⟩ ∈ xTs := xt_9 94 rfl rfl
theorem xz_X12_hide : Cond.initialized "MirrorHeirsModel" ∈ xTs := xt_1 15 rfl rfl
theorem xe_X12_hide : Cond.code ⟨"MirrorHeirsModel", "hide", "(III)I"⟩ prog_14_method_110_code 7 (some (.int)) ∈ xTs := xt_9 95 rfl rfl
theorem xp_X12_hide : (⟨"MirrorHeirsModel", "hide", "(III)I"⟩ : MethodName).cls ≠ "java/lang/invoke/MethodHandle" ∧ (⟨"MirrorHeirsModel", "hide", "(III)I"⟩ : MethodName).cls ≠ "java/lang/invoke/VarHandle" ∧ (parseMethodDescriptor (⟨"MirrorHeirsModel", "hide", "(III)I"⟩ : MethodName).desc).map (fun d => d.parameters.length) = some 3 := by decide +kernel
theorem xs_X12_hides : Cond.instanceMethod ⟨"MirrorHeirsModel", "hides", "(I)I"⟩ ∈ xTs := xt_9 97 rfl rfl
theorem xq_X12_hides : Cond.selects "MirrorHeirsModel" ⟨"MirrorHeirsModel", "hides", "(I)I"⟩ ⟨"MirrorHeirsModel", "hides", "(I)I"⟩ ∈ xTs := xt_9 98 rfl rfl
theorem xz_X12_hides : Cond.initialized "MirrorHeirsModel" ∈ xTs := xt_1 15 rfl rfl
theorem xe_X12_hides : Cond.code ⟨"MirrorHeirsModel", "hides", "(I)I"⟩ prog_14_method_111_code 7 (some (.int)) ∈ xTs := xt_9 99 rfl rfl
theorem xp_X12_hides : (⟨"MirrorHeirsModel", "hides", "(I)I"⟩ : MethodName).cls ≠ "java/lang/invoke/MethodHandle" ∧ (⟨"MirrorHeirsModel", "hides", "(I)I"⟩ : MethodName).cls ≠ "java/lang/invoke/VarHandle" ∧ (parseMethodDescriptor (⟨"MirrorHeirsModel", "hides", "(I)I"⟩ : MethodName).desc).map (fun d => d.parameters.length) = some 1 := by decide +kernel
theorem xs_X12_hint : Cond.instanceMethod ⟨"MirrorHeirsModel", "hint", "(II)I"⟩ ∈ xTs := xt_9 73 rfl rfl
theorem xq_X12_hint : Cond.selects "MirrorHeirsModel" ⟨"MirrorHeirsModel", "hint", "(II)I"⟩ ⟨"MirrorHeirsModel", "hint", "(II)I"⟩ ∈ xTs := xt_9 74 rfl rfl
theorem xz_X12_hint : Cond.initialized "MirrorHeirsModel" ∈ xTs := xt_1 15 rfl rfl
theorem xe_X12_hint : Cond.code ⟨"MirrorHeirsModel", "hint", "(II)I"⟩ prog_14_method_105_code 4 (some (.int)) ∈ xTs := xt_9 75 rfl rfl
theorem xp_X12_hint : (⟨"MirrorHeirsModel", "hint", "(II)I"⟩ : MethodName).cls ≠ "java/lang/invoke/MethodHandle" ∧ (⟨"MirrorHeirsModel", "hint", "(II)I"⟩ : MethodName).cls ≠ "java/lang/invoke/VarHandle" ∧ (parseMethodDescriptor (⟨"MirrorHeirsModel", "hint", "(II)I"⟩ : MethodName).desc).map (fun d => d.parameters.length) = some 2 := by decide +kernel
theorem xs_X12_image : Cond.instanceMethod ⟨"MirrorHeirsModel", "image", "(I)I"⟩ ∈ xTs := xt_7 151 rfl rfl
theorem xq_X12_image : Cond.selects "MirrorHeirsModel" ⟨"MirrorHeirsModel", "image", "(I)I"⟩ ⟨"MirrorHeirsModel", "image", "(I)I"⟩ ∈ xTs := xt_7 152 rfl rfl
theorem xz_X12_image : Cond.initialized "MirrorHeirsModel" ∈ xTs := xt_1 15 rfl rfl
theorem xe_X12_image : Cond.code ⟨"MirrorHeirsModel", "image", "(I)I"⟩ prog_14_method_7_code 3 (some (.int)) ∈ xTs := xt_7 153 rfl rfl
theorem xp_X12_image : (⟨"MirrorHeirsModel", "image", "(I)I"⟩ : MethodName).cls ≠ "java/lang/invoke/MethodHandle" ∧ (⟨"MirrorHeirsModel", "image", "(I)I"⟩ : MethodName).cls ≠ "java/lang/invoke/VarHandle" ∧ (parseMethodDescriptor (⟨"MirrorHeirsModel", "image", "(I)I"⟩ : MethodName).desc).map (fun d => d.parameters.length) = some 1 := by decide +kernel
theorem xs_X12_init : Cond.instanceMethod ⟨"MirrorHeirsModel", "<init>", "()V"⟩ ∈ xTs := xt_6 199 rfl rfl
theorem xz_X12_init : Cond.initialized "MirrorHeirsModel" ∈ xTs := xt_1 15 rfl rfl
theorem xe_X12_init : Cond.code ⟨"MirrorHeirsModel", "<init>", "()V"⟩ prog_14_method_6_code 1 none ∈ xTs := xt_6 200 rfl rfl
theorem xp_X12_init : (⟨"MirrorHeirsModel", "<init>", "()V"⟩ : MethodName).cls ≠ "java/lang/invoke/MethodHandle" ∧ (⟨"MirrorHeirsModel", "<init>", "()V"⟩ : MethodName).cls ≠ "java/lang/invoke/VarHandle" ∧ (parseMethodDescriptor (⟨"MirrorHeirsModel", "<init>", "()V"⟩ : MethodName).desc).map (fun d => d.parameters.length) = some 0 := by decide +kernel
theorem xs_X12_isCell : Cond.static ⟨"MirrorHeirsModel", "isCell", "(I)Z"⟩ ∈ xTs := xt_7 174 rfl rfl
theorem xz_X12_isCell : Cond.initialized "MirrorHeirsModel" ∈ xTs := xt_1 15 rfl rfl
theorem xe_X12_isCell : Cond.code ⟨"MirrorHeirsModel", "isCell", "(I)Z"⟩ prog_14_method_9_code 1 (some (.boolean)) ∈ xTs := xt_7 175 rfl rfl
theorem xp_X12_isCell : (⟨"MirrorHeirsModel", "isCell", "(I)Z"⟩ : MethodName).cls ≠ "java/lang/invoke/MethodHandle" ∧ (⟨"MirrorHeirsModel", "isCell", "(I)Z"⟩ : MethodName).cls ≠ "java/lang/invoke/VarHandle" ∧ (parseMethodDescriptor (⟨"MirrorHeirsModel", "isCell", "(I)Z"⟩ : MethodName).desc).map (fun d => d.parameters.length) = some 1 := by decide +kernel
theorem xs_X12_isDigit : Cond.static ⟨"MirrorHeirsModel", "isDigit", "(I)Z"⟩ ∈ xTs := xt_8 66 rfl rfl
theorem xz_X12_isDigit : Cond.initialized "MirrorHeirsModel" ∈ xTs := xt_1 15 rfl rfl
theorem xe_X12_isDigit : Cond.code ⟨"MirrorHeirsModel", "isDigit", "(I)Z"⟩ prog_14_method_41_code 1 (some (.boolean)) ∈ xTs := xt_8 67 rfl rfl
theorem xp_X12_isDigit : (⟨"MirrorHeirsModel", "isDigit", "(I)Z"⟩ : MethodName).cls ≠ "java/lang/invoke/MethodHandle" ∧ (⟨"MirrorHeirsModel", "isDigit", "(I)Z"⟩ : MethodName).cls ≠ "java/lang/invoke/VarHandle" ∧ (parseMethodDescriptor (⟨"MirrorHeirsModel", "isDigit", "(I)Z"⟩ : MethodName).desc).map (fun d => d.parameters.length) = some 1 := by decide +kernel
theorem xs_X12_isEnd : Cond.instanceMethod ⟨"MirrorHeirsModel", "isEnd", "(II)Z"⟩ ∈ xTs := xt_8 207 rfl rfl
theorem xq_X12_isEnd : Cond.selects "MirrorHeirsModel" ⟨"MirrorHeirsModel", "isEnd", "(II)Z"⟩ ⟨"MirrorHeirsModel", "isEnd", "(II)Z"⟩ ∈ xTs := xp7 4 rfl
theorem xz_X12_isEnd : Cond.initialized "MirrorHeirsModel" ∈ xTs := xt_1 15 rfl rfl
theorem xe_X12_isEnd : Cond.code ⟨"MirrorHeirsModel", "isEnd", "(II)Z"⟩ prog_14_method_81_code 3 (some (.boolean)) ∈ xTs := xt_8 208 rfl rfl
theorem xp_X12_isEnd : (⟨"MirrorHeirsModel", "isEnd", "(II)Z"⟩ : MethodName).cls ≠ "java/lang/invoke/MethodHandle" ∧ (⟨"MirrorHeirsModel", "isEnd", "(II)Z"⟩ : MethodName).cls ≠ "java/lang/invoke/VarHandle" ∧ (parseMethodDescriptor (⟨"MirrorHeirsModel", "isEnd", "(II)Z"⟩ : MethodName).desc).map (fun d => d.parameters.length) = some 2 := by decide +kernel
theorem xs_X12_isGlass : Cond.static ⟨"MirrorHeirsModel", "isGlass", "(I)Z"⟩ ∈ xTs := xt_7 209 rfl rfl
theorem xz_X12_isGlass : Cond.initialized "MirrorHeirsModel" ∈ xTs := xt_1 15 rfl rfl
theorem xe_X12_isGlass : Cond.code ⟨"MirrorHeirsModel", "isGlass", "(I)Z"⟩ prog_14_method_21_code 1 (some (.boolean)) ∈ xTs := xt_7 210 rfl rfl
theorem xp_X12_isGlass : (⟨"MirrorHeirsModel", "isGlass", "(I)Z"⟩ : MethodName).cls ≠ "java/lang/invoke/MethodHandle" ∧ (⟨"MirrorHeirsModel", "isGlass", "(I)Z"⟩ : MethodName).cls ≠ "java/lang/invoke/VarHandle" ∧ (parseMethodDescriptor (⟨"MirrorHeirsModel", "isGlass", "(I)Z"⟩ : MethodName).desc).map (fun d => d.parameters.length) = some 1 := by decide +kernel
theorem xs_X12_isHeir : Cond.instanceMethod ⟨"MirrorHeirsModel", "isHeir", "(I)Z"⟩ ∈ xTs := xt_8 8 rfl rfl
theorem xq_X12_isHeir : Cond.selects "MirrorHeirsModel" ⟨"MirrorHeirsModel", "isHeir", "(I)Z"⟩ ⟨"MirrorHeirsModel", "isHeir", "(I)Z"⟩ ∈ xTs := xp5 2 rfl
theorem xz_X12_isHeir : Cond.initialized "MirrorHeirsModel" ∈ xTs := xt_1 15 rfl rfl
theorem xe_X12_isHeir : Cond.code ⟨"MirrorHeirsModel", "isHeir", "(I)Z"⟩ prog_14_method_11_code 2 (some (.boolean)) ∈ xTs := xt_8 9 rfl rfl
theorem xp_X12_isHeir : (⟨"MirrorHeirsModel", "isHeir", "(I)Z"⟩ : MethodName).cls ≠ "java/lang/invoke/MethodHandle" ∧ (⟨"MirrorHeirsModel", "isHeir", "(I)Z"⟩ : MethodName).cls ≠ "java/lang/invoke/VarHandle" ∧ (parseMethodDescriptor (⟨"MirrorHeirsModel", "isHeir", "(I)Z"⟩ : MethodName).desc).map (fun d => d.parameters.length) = some 1 := by decide +kernel
theorem xs_X12_isIn : Cond.static ⟨"MirrorHeirsModel", "isIn", "(II)Z"⟩ ∈ xTs := xt_9 63 rfl rfl
theorem xz_X12_isIn : Cond.initialized "MirrorHeirsModel" ∈ xTs := xt_1 15 rfl rfl
theorem xe_X12_isIn : Cond.code ⟨"MirrorHeirsModel", "isIn", "(II)Z"⟩ prog_14_method_4_code 2 (some (.boolean)) ∈ xTs := xt_9 64 rfl rfl
theorem xp_X12_isIn : (⟨"MirrorHeirsModel", "isIn", "(II)Z"⟩ : MethodName).cls ≠ "java/lang/invoke/MethodHandle" ∧ (⟨"MirrorHeirsModel", "isIn", "(II)Z"⟩ : MethodName).cls ≠ "java/lang/invoke/VarHandle" ∧ (parseMethodDescriptor (⟨"MirrorHeirsModel", "isIn", "(II)Z"⟩ : MethodName).desc).map (fun d => d.parameters.length) = some 2 := by decide +kernel
theorem xs_X12_isPivot : Cond.instanceMethod ⟨"MirrorHeirsModel", "isPivot", "(I)Z"⟩ ∈ xTs := xt_7 217 rfl rfl
theorem xq_X12_isPivot : Cond.selects "MirrorHeirsModel" ⟨"MirrorHeirsModel", "isPivot", "(I)Z"⟩ ⟨"MirrorHeirsModel", "isPivot", "(I)Z"⟩ ∈ xTs := xp4 14 rfl
theorem xz_X12_isPivot : Cond.initialized "MirrorHeirsModel" ∈ xTs := xt_1 15 rfl rfl
theorem xe_X12_isPivot : Cond.code ⟨"MirrorHeirsModel", "isPivot", "(I)Z"⟩ prog_14_method_10_code 2 (some (.boolean)) ∈ xTs := xt_7 218 rfl rfl
theorem xp_X12_isPivot : (⟨"MirrorHeirsModel", "isPivot", "(I)Z"⟩ : MethodName).cls ≠ "java/lang/invoke/MethodHandle" ∧ (⟨"MirrorHeirsModel", "isPivot", "(I)Z"⟩ : MethodName).cls ≠ "java/lang/invoke/VarHandle" ∧ (parseMethodDescriptor (⟨"MirrorHeirsModel", "isPivot", "(I)Z"⟩ : MethodName).desc).map (fun d => d.parameters.length) = some 1 := by decide +kernel
theorem xs_X12_isSmall : Cond.static ⟨"MirrorHeirsModel", "isSmall", "(I)Z"⟩ ∈ xTs := xt_8 63 rfl rfl
theorem xz_X12_isSmall : Cond.initialized "MirrorHeirsModel" ∈ xTs := xt_1 15 rfl rfl
theorem xe_X12_isSmall : Cond.code ⟨"MirrorHeirsModel", "isSmall", "(I)Z"⟩ prog_14_method_40_code 1 (some (.boolean)) ∈ xTs := xt_8 64 rfl rfl
theorem xp_X12_isSmall : (⟨"MirrorHeirsModel", "isSmall", "(I)Z"⟩ : MethodName).cls ≠ "java/lang/invoke/MethodHandle" ∧ (⟨"MirrorHeirsModel", "isSmall", "(I)Z"⟩ : MethodName).cls ≠ "java/lang/invoke/VarHandle" ∧ (parseMethodDescriptor (⟨"MirrorHeirsModel", "isSmall", "(I)Z"⟩ : MethodName).desc).map (fun d => d.parameters.length) = some 1 := by decide +kernel
theorem xs_X12_isThing : Cond.instanceMethod ⟨"MirrorHeirsModel", "isThing", "(I)Z"⟩ ∈ xTs := xt_9 21 rfl rfl
theorem xq_X12_isThing : Cond.selects "MirrorHeirsModel" ⟨"MirrorHeirsModel", "isThing", "(I)Z"⟩ ⟨"MirrorHeirsModel", "isThing", "(I)Z"⟩ ∈ xTs := xp7 12 rfl
theorem xz_X12_isThing : Cond.initialized "MirrorHeirsModel" ∈ xTs := xt_1 15 rfl rfl
theorem xe_X12_isThing : Cond.code ⟨"MirrorHeirsModel", "isThing", "(I)Z"⟩ prog_14_method_12_code 2 (some (.boolean)) ∈ xTs := xt_9 22 rfl rfl
theorem xp_X12_isThing : (⟨"MirrorHeirsModel", "isThing", "(I)Z"⟩ : MethodName).cls ≠ "java/lang/invoke/MethodHandle" ∧ (⟨"MirrorHeirsModel", "isThing", "(I)Z"⟩ : MethodName).cls ≠ "java/lang/invoke/VarHandle" ∧ (parseMethodDescriptor (⟨"MirrorHeirsModel", "isThing", "(I)Z"⟩ : MethodName).desc).map (fun d => d.parameters.length) = some 1 := by decide +kernel
theorem xs_X12_keeps : Cond.instanceMethod ⟨"MirrorHeirsModel", "keeps", "(III)V"⟩ ∈ xTs := xt_7 229 rfl rfl
theorem xq_X12_keeps : Cond.selects "MirrorHeirsModel" ⟨"MirrorHeirsModel", "keeps", "(III)V"⟩ ⟨"MirrorHeirsModel", "keeps", "(III)V"⟩ ∈ xTs := xp5 0 rfl
theorem xz_X12_keeps : Cond.initialized "MirrorHeirsModel" ∈ xTs := xt_1 15 rfl rfl
theorem xe_X12_keeps : Cond.code ⟨"MirrorHeirsModel", "keeps", "(III)V"⟩ prog_14_method_29_code 5 none ∈ xTs := xt_7 230 rfl rfl
theorem xp_X12_keeps : (⟨"MirrorHeirsModel", "keeps", "(III)V"⟩ : MethodName).cls ≠ "java/lang/invoke/MethodHandle" ∧ (⟨"MirrorHeirsModel", "keeps", "(III)V"⟩ : MethodName).cls ≠ "java/lang/invoke/VarHandle" ∧ (parseMethodDescriptor (⟨"MirrorHeirsModel", "keeps", "(III)V"⟩ : MethodName).desc).map (fun d => d.parameters.length) = some 3 := by decide +kernel
theorem xs_X12_law : Cond.instanceMethod ⟨"MirrorHeirsModel", "law", "()I"⟩ ∈ xTs := xt_8 47 rfl rfl
theorem xq_X12_law : Cond.selects "MirrorHeirsModel" ⟨"MirrorHeirsModel", "law", "()I"⟩ ⟨"MirrorHeirsModel", "law", "()I"⟩ ∈ xTs := xt_8 48 rfl rfl
theorem xz_X12_law : Cond.initialized "MirrorHeirsModel" ∈ xTs := xt_1 15 rfl rfl
theorem xe_X12_law : Cond.code ⟨"MirrorHeirsModel", "law", "()I"⟩ prog_14_method_63_code 1 (some (.int)) ∈ xTs := xt_8 49 rfl rfl
theorem xp_X12_law : (⟨"MirrorHeirsModel", "law", "()I"⟩ : MethodName).cls ≠ "java/lang/invoke/MethodHandle" ∧ (⟨"MirrorHeirsModel", "law", "()I"⟩ : MethodName).cls ≠ "java/lang/invoke/VarHandle" ∧ (parseMethodDescriptor (⟨"MirrorHeirsModel", "law", "()I"⟩ : MethodName).desc).map (fun d => d.parameters.length) = some 0 := by decide +kernel
theorem xs_X12_lays : Cond.instanceMethod ⟨"MirrorHeirsModel", "lays", "(I)V"⟩ ∈ xTs := xt_8 138 rfl rfl
theorem xq_X12_lays : Cond.selects "MirrorHeirsModel" ⟨"MirrorHeirsModel", "lays", "(I)V"⟩ ⟨"MirrorHeirsModel", "lays", "(I)V"⟩ ∈ xTs := xp6 7 rfl
theorem xz_X12_lays : Cond.initialized "MirrorHeirsModel" ∈ xTs := xt_1 15 rfl rfl
theorem xe_X12_lays : Cond.code ⟨"MirrorHeirsModel", "lays", "(I)V"⟩ prog_14_method_62_code 3 none ∈ xTs := xt_8 139 rfl rfl
theorem xp_X12_lays : (⟨"MirrorHeirsModel", "lays", "(I)V"⟩ : MethodName).cls ≠ "java/lang/invoke/MethodHandle" ∧ (⟨"MirrorHeirsModel", "lays", "(I)V"⟩ : MethodName).cls ≠ "java/lang/invoke/VarHandle" ∧ (parseMethodDescriptor (⟨"MirrorHeirsModel", "lays", "(I)V"⟩ : MethodName).desc).map (fun d => d.parameters.length) = some 1 := by decide +kernel
theorem xs_X12_laysEstates : Cond.instanceMethod ⟨"MirrorHeirsModel", "laysEstates", "()V"⟩ ∈ xTs := xt_9 106 rfl rfl
