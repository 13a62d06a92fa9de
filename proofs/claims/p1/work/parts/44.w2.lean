theorem xz_X11_isKind : Cond.initialized "MirrorHeirs" ∈ xTs := xt_1 1 rfl rfl
theorem xe_X11_isKind : Cond.code ⟨"MirrorHeirs", "isKind", "(I)Z"⟩ prog_1_method_60_code 1 (some (.boolean)) ∈ xTs := xt_3 30 rfl rfl
theorem xp_X11_isKind : (⟨"MirrorHeirs", "isKind", "(I)Z"⟩ : MethodName).cls ≠ "java/lang/invoke/MethodHandle" ∧ (⟨"MirrorHeirs", "isKind", "(I)Z"⟩ : MethodName).cls ≠ "java/lang/invoke/VarHandle" ∧ (parseMethodDescriptor (⟨"MirrorHeirs", "isKind", "(I)Z"⟩ : MethodName).desc).map (fun d => d.parameters.length) = some 1 := by decide +kernel
theorem xs_X11_isWithin : Cond.static ⟨"MirrorHeirs", "isWithin", "(III)Z"⟩ ∈ xTs := xt_3 89 rfl rfl
theorem xz_X11_isWithin : Cond.initialized "MirrorHeirs" ∈ xTs := xt_1 1 rfl rfl
theorem xe_X11_isWithin : Cond.code ⟨"MirrorHeirs", "isWithin", "(III)Z"⟩ prog_1_method_58_code 3 (some (.boolean)) ∈ xTs := xt_3 90 rfl rfl
theorem xp_X11_isWithin : (⟨"MirrorHeirs", "isWithin", "(III)Z"⟩ : MethodName).cls ≠ "java/lang/invoke/MethodHandle" ∧ (⟨"MirrorHeirs", "isWithin", "(III)Z"⟩ : MethodName).cls ≠ "java/lang/invoke/VarHandle" ∧ (parseMethodDescriptor (⟨"MirrorHeirs", "isWithin", "(III)Z"⟩ : MethodName).desc).map (fun d => d.parameters.length) = some 3 := by decide +kernel
theorem xs_X11_law : Cond.instanceMethod ⟨"MirrorHeirs", "law", "()I"⟩ ∈ xTs := xt_3 202 rfl rfl
theorem xq_X11_law : Cond.selects "MirrorHeirs" ⟨"MirrorHeirs", "law", "()I"⟩ ⟨"MirrorHeirs", "law", "()I"⟩ ∈ xTs := xt_3 203 rfl rfl
theorem xz_X11_law : Cond.initialized "MirrorHeirs" ∈ xTs := xt_1 1 rfl rfl
theorem xe_X11_law : Cond.code ⟨"MirrorHeirs", "law", "()I"⟩ prog_1_method_17_code 2 (some (.int)) ∈ xTs := xt_3 204 rfl rfl
theorem xp_X11_law : (⟨"MirrorHeirs", "law", "()I"⟩ : MethodName).cls ≠ "java/lang/invoke/MethodHandle" ∧ (⟨"MirrorHeirs", "law", "()I"⟩ : MethodName).cls ≠ "java/lang/invoke/VarHandle" ∧ (parseMethodDescriptor (⟨"MirrorHeirs", "law", "()I"⟩ : MethodName).desc).map (fun d => d.parameters.length) = some 0 := by decide +kernel
theorem xs_X11_lit : Cond.instanceMethod ⟨"MirrorHeirs", "lit", "(I)I"⟩ ∈ xTs := xt_5 182 rfl rfl
theorem xq_X11_lit : Cond.selects "MirrorHeirs" ⟨"MirrorHeirs", "lit", "(I)I"⟩ ⟨"MirrorHeirs", "lit", "(I)I"⟩ ∈ xTs := xt_5 183 rfl rfl
theorem xz_X11_lit : Cond.initialized "MirrorHeirs" ∈ xTs := xt_1 1 rfl rfl
theorem xe_X11_lit : Cond.code ⟨"MirrorHeirs", "lit", "(I)I"⟩ prog_1_method_29_code 2 (some (.int)) ∈ xTs := xt_5 184 rfl rfl
theorem xp_X11_lit : (⟨"MirrorHeirs", "lit", "(I)I"⟩ : MethodName).cls ≠ "java/lang/invoke/MethodHandle" ∧ (⟨"MirrorHeirs", "lit", "(I)I"⟩ : MethodName).cls ≠ "java/lang/invoke/VarHandle" ∧ (parseMethodDescriptor (⟨"MirrorHeirs", "lit", "(I)I"⟩ : MethodName).desc).map (fun d => d.parameters.length) = some 1 := by decide +kernel
theorem xs_X11_move : Cond.instanceMethod ⟨"MirrorHeirs", "move", "(II)I"⟩ ∈ xTs := xt_3 140 rfl rfl
theorem xq_X11_move : Cond.selects "MirrorHeirs" ⟨"MirrorHeirs", "move", "(II)I"⟩ ⟨"MirrorHeirs", "move", "(II)I"⟩ ∈ xTs := xt_3 141 rfl rfl
theorem xz_X11_move : Cond.initialized "MirrorHeirs" ∈ xTs := xt_1 1 rfl rfl
theorem xe_X11_move : Cond.code ⟨"MirrorHeirs", "move", "(II)I"⟩ prog_1_method_8_code 4 (some (.int)) ∈ xTs := xt_3 142 rfl rfl
theorem xp_X11_move : (⟨"MirrorHeirs", "move", "(II)I"⟩ : MethodName).cls ≠ "java/lang/invoke/MethodHandle" ∧ (⟨"MirrorHeirs", "move", "(II)I"⟩ : MethodName).cls ≠ "java/lang/invoke/VarHandle" ∧ (parseMethodDescriptor (⟨"MirrorHeirs", "move", "(II)I"⟩ : MethodName).desc).map (fun d => d.parameters.length) = some 2 := by decide +kernel
theorem xs_X11_of : Cond.instanceMethod ⟨"MirrorHeirs", "of", "(II)I"⟩ ∈ xTs := xt_3 107 rfl rfl
theorem xq_X11_of : Cond.selects "MirrorHeirs" ⟨"MirrorHeirs", "of", "(II)I"⟩ ⟨"MirrorHeirs", "of", "(II)I"⟩ ∈ xTs := xt_3 108 rfl rfl
theorem xz_X11_of : Cond.initialized "MirrorHeirs" ∈ xTs := xt_1 1 rfl rfl
theorem xe_X11_of : Cond.code ⟨"MirrorHeirs", "of", "(II)I"⟩ prog_1_method_5_code 3 (some (.int)) ∈ xTs := xt_3 109 rfl rfl
theorem xp_X11_of : (⟨"MirrorHeirs", "of", "(II)I"⟩ : MethodName).cls ≠ "java/lang/invoke/MethodHandle" ∧ (⟨"MirrorHeirs", "of", "(II)I"⟩ : MethodName).cls ≠ "java/lang/invoke/VarHandle" ∧ (parseMethodDescriptor (⟨"MirrorHeirs", "of", "(II)I"⟩ : MethodName).desc).map (fun d => d.parameters.length) = some 2 := by decide +kernel
theorem xs_X11_orders : Cond.instanceMethod ⟨"MirrorHeirs", "orders", "()I"⟩ ∈ xTs := xt_4 174 rfl rfl
theorem xq_X11_orders : Cond.selects "MirrorHeirs" ⟨"MirrorHeirs", "orders", "()I"⟩ ⟨"MirrorHeirs", "orders", "()I"⟩ ∈ xTs := xt_4 175 rfl rfl
theorem xz_X11_orders : Cond.initialized "MirrorHeirs" ∈ xTs := xt_1 1 rfl rfl
theorem xe_X11_orders : Cond.code ⟨"MirrorHeirs", "orders", "()I"⟩ prog_1_method_18_code 3 (some (.int)) ∈ xTs := xt_4 176 rfl rfl
theorem xp_X11_orders : (⟨"MirrorHeirs", "orders", "()I"⟩ : MethodName).cls ≠ "java/lang/invoke/MethodHandle" ∧ (⟨"MirrorHeirs", "orders", "()I"⟩ : MethodName).cls ≠ "java/lang/invoke/VarHandle" ∧ (parseMethodDescriptor (⟨"MirrorHeirs", "orders", "()I"⟩ : MethodName).desc).map (fun d => d.parameters.length) = some 0 := by decide +kernel
theorem xs_X11_owner : Cond.instanceMethod ⟨"MirrorHeirs", "owner", "(II)I"⟩ ∈ xTs := xt_5 160 rfl rfl
theorem xq_X11_owner : Cond.selects "MirrorHeirs" ⟨"MirrorHeirs", "owner", "(II)I"⟩ ⟨"MirrorHeirs", "owner", "(II)I"⟩ ∈ xTs := xt_5 161 rfl rfl
theorem xz_X11_owner : Cond.initialized "MirrorHeirs" ∈ xTs := xt_1 1 rfl rfl
theorem xe_X11_owner : Cond.code ⟨"MirrorHeirs", "owner", "(II)I"⟩ prog_1_method_27_code 4 (some (.int)) ∈ xTs := xt_5 162 rfl rfl
theorem xp_X11_owner : (⟨"MirrorHeirs", "owner", "(II)I"⟩ : MethodName).cls ≠ "java/lang/invoke/MethodHandle" ∧ (⟨"MirrorHeirs", "owner", "(II)I"⟩ : MethodName).cls ≠ "java/lang/invoke/VarHandle" ∧ (parseMethodDescriptor (⟨"MirrorHeirs", "owner", "(II)I"⟩ : MethodName).desc).map (fun d => d.parameters.length) = some 2 := by decide +kernel
theorem xs_X11_pair : Cond.instanceMethod ⟨"MirrorHeirs", "pair", "(II)I"⟩ ∈ xTs := xt_5 134 rfl rfl
theorem xq_X11_pair : Cond.selects "MirrorHeirs" ⟨"MirrorHeirs", "pair", "(II)I"⟩ ⟨"MirrorHeirs", "pair", "(II)I"⟩ ∈ xTs := xt_5 135 rfl rfl
theorem xz_X11_pair : Cond.initialized "MirrorHeirs" ∈ xTs := xt_1 1 rfl rfl
theorem xe_X11_pair : Cond.code ⟨"MirrorHeirs", "pair", "(II)I"⟩ prog_1_method_25_code 3 (some (.int)) ∈ xTs := xt_5 136 rfl rfl
theorem xp_X11_pair : (⟨"MirrorHeirs", "pair", "(II)I"⟩ : MethodName).cls ≠ "java/lang/invoke/MethodHandle" ∧ (⟨"MirrorHeirs", "pair", "(II)I"⟩ : MethodName).cls ≠ "java/lang/invoke/VarHandle" ∧ (parseMethodDescriptor (⟨"MirrorHeirs", "pair", "(II)I"⟩ : MethodName).desc).map (fun d => d.parameters.length) = some 2 := by decide +kernel
theorem xs_X11_peace : Cond.instanceMethod ⟨"MirrorHeirs", "peace", "(I)I"⟩ ∈ xTs := xt_6 95 rfl rfl
theorem xq_X11_peace : Cond.selects "MirrorHeirs" ⟨"MirrorHeirs", "peace", "(I)I"⟩ ⟨"MirrorHeirs", "peace", "(I)I"⟩ ∈ xTs := xt_6 96 rfl rfl
theorem xz_X11_peace : Cond.initialized "MirrorHeirs" ∈ xTs := xt_1 1 rfl rfl
theorem xe_X11_peace : Cond.code ⟨"MirrorHeirs", "peace", "(I)I"⟩ prog_1_method_39_code 2 (some (.int)) ∈ xTs := xt_6 97 rfl rfl
theorem xp_X11_peace : (⟨"MirrorHeirs", "peace", "(I)I"⟩ : MethodName).cls ≠ "java/lang/invoke/MethodHandle" ∧ (⟨"MirrorHeirs", "peace", "(I)I"⟩ : MethodName).cls ≠ "java/lang/invoke/VarHandle" ∧ (parseMethodDescriptor (⟨"MirrorHeirs", "peace", "(I)I"⟩ : MethodName).desc).map (fun d => d.parameters.length) = some 1 := by decide +kernel
theorem xs_X11_pick : Cond.static ⟨"MirrorHeirs", "pick", "(JI)I"⟩ ∈ xTs := xt_5 174 rfl rfl
theorem xz_X11_pick : Cond.initialized "MirrorHeirs" ∈ xTs := xt_1 1 rfl rfl
theorem xe_X11_pick : Cond.code ⟨"MirrorHeirs", "pick", "(JI)I"⟩ prog_1_method_56_code 5 (some (.int)) ∈ xTs := xt_5 175 rfl rfl
theorem xp_X11_pick : (⟨"MirrorHeirs", "pick", "(JI)I"⟩ : MethodName).cls ≠ "java/lang/invoke/MethodHandle" ∧ (⟨"MirrorHeirs", "pick", "(JI)I"⟩ : MethodName).cls ≠ "java/lang/invoke/VarHandle" ∧ (parseMethodDescriptor (⟨"MirrorHeirs", "pick", "(JI)I"⟩ : MethodName).desc).map (fun d => d.parameters.length) = some 2 := by decide +kernel
theorem xs_X11_pivot : Cond.instanceMethod ⟨"MirrorHeirs", "pivot", "(III)I"⟩ ∈ xTs := xt_3 85 rfl rfl
theorem xq_X11_pivot : Cond.selects "MirrorHeirs" ⟨"MirrorHeirs", "pivot", "(III)I"⟩ ⟨"MirrorHeirs", "pivot", "(III)I"⟩ ∈ xTs := xt_3 86 rfl rfl
theorem xz_X11_pivot : Cond.initialized "MirrorHeirs" ∈ xTs := xt_1 1 rfl rfl
theorem xe_X11_pivot : Cond.code ⟨"MirrorHeirs", "pivot", "(III)I"⟩ prog_1_method_4_code 4 (some (.int)) ∈ xTs := xt_3 87 rfl rfl
theorem xp_X11_pivot : (⟨"MirrorHeirs", "pivot", "(III)I"⟩ : MethodName).cls ≠ "java/lang/invoke/MethodHandle" ∧ (⟨"MirrorHeirs", "pivot", "(III)I"⟩ : MethodName).cls ≠ "java/lang/invoke/VarHandle" ∧ (parseMethodDescriptor (⟨"MirrorHeirs", "pivot", "(III)I"⟩ : MethodName).desc).map (fun d => d.parameters.length) = some 3 := by decide +kernel
theorem xs_X11_put : Cond.instanceMethod ⟨"MirrorHeirs", "put", "(II)I"⟩ ∈ xTs := xt_3 22 rfl rfl
theorem xq_X11_put : Cond.selects "MirrorHeirs" ⟨"MirrorHeirs", "put", "(II)I"⟩ ⟨"MirrorHeirs", "put", "(II)I"⟩ ∈ xTs := xt_3 23 rfl rfl
theorem xz_X11_put : Cond.initialized "MirrorHeirs" ∈ xTs := xt_1 1 rfl rfl
theorem xe_X11_put : Cond.code ⟨"MirrorHeirs", "put", "(II)I"⟩ prog_1_method_2_code 4 (some (.int)) ∈ xTs := xt_3 24 rfl rfl
theorem xp_X11_put : (⟨"MirrorHeirs", "put", "(II)I"⟩ : MethodName).cls ≠ "java/lang/invoke/MethodHandle" ∧ (⟨"MirrorHeirs", "put", "(II)I"⟩ : MethodName).cls ≠ "java/lang/invoke/VarHandle" ∧ (parseMethodDescriptor (⟨"MirrorHeirs", "put", "(II)I"⟩ : MethodName).desc).map (fun d => d.parameters.length) = some 2 := by decide +kernel
theorem xs_X11_quarrel : Cond.instanceMethod ⟨"MirrorHeirs", "quarrel", "(I)I"⟩ ∈ xTs := xt_6 136 rfl rfl
theorem xq_X11_quarrel : Cond.selects "MirrorHeirs" ⟨"MirrorHeirs", "quarrel", "(I)I"⟩ ⟨"MirrorHeirs", "quarrel", "(I)I"⟩ ∈ xTs := xt_6 137 rfl rfl
theorem xz_X11_quarrel : Cond.initialized "MirrorHeirs" ∈ xTs := xt_1 1 rfl rfl
theorem xe_X11_quarrel : Cond.code ⟨"MirrorHeirs", "quarrel", "(I)I"⟩ prog_1_method_40_code 3 (some (.int)) ∈ xTs := xt_6 138 rfl rfl
theorem xp_X11_quarrel : (⟨"MirrorHeirs", "quarrel", "(I)I"⟩ : MethodName).cls ≠ "java/lang/invoke/MethodHandle" ∧ (⟨"MirrorHeirs", "quarrel", "(I)I"⟩ : MethodName).cls ≠ "java/lang/invoke/VarHandle" ∧ (parseMethodDescriptor (⟨"MirrorHeirs", "quarrel", "(I)I"⟩ : MethodName).desc).map (fun d => d.parameters.length) = some 1 := by decide +kernel
theorem xs_X11_ray : Cond.instanceMethod ⟨"MirrorHeirs", "ray", "(III)I"⟩ ∈ xTs := xt_5 115 rfl rfl
theorem xq_X11_ray : Cond.selects "MirrorHeirs" ⟨"MirrorHeirs", "ray", "(III)I"⟩ ⟨"MirrorHeirs", "ray", "(III)I"⟩ ∈ xTs := xt_5 116 rfl rfl
theorem xz_X11_ray : Cond.initialized "MirrorHeirs" ∈ xTs := xt_1 1 rfl rfl
theorem xe_X11_ray : Cond.code ⟨"MirrorHeirs", "ray", "(III)I"⟩ prog_1_method_22_code 4 (some (.int)) ∈ xTs := xt_5 117 rfl rfl
theorem xp_X11_ray : (⟨"MirrorHeirs", "ray", "(III)I"⟩ : MethodName).cls ≠ "java/lang/invoke/MethodHandle" ∧ (⟨"MirrorHeirs", "ray", "(III)I"⟩ : MethodName).cls ≠ "java/lang/invoke/VarHandle" ∧ (parseMethodDescriptor (⟨"MirrorHeirs", "ray", "(III)I"⟩ : MethodName).desc).map (fun d => d.parameters.length) = some 3 := by decide +kernel
theorem xs_X11_refusalsBy : Cond.instanceMethod ⟨"MirrorHeirs", "refusalsBy", "(I)I"⟩ ∈ xTs := xt_6 190 rfl rfl
theorem xq_X11_refusalsBy : Cond.selects "MirrorHeirs" ⟨"MirrorHeirs", "refusalsBy", "(I)I"⟩ ⟨"MirrorHeirs", "refusalsBy", "(I)I"⟩ ∈ xTs := xp4 5 rfl
theorem xz_X11_refusalsBy : Cond.initialized "MirrorHeirs" ∈ xTs := xt_1 1 rfl rfl
theorem xe_X11_refusalsBy : Cond.code ⟨"MirrorHeirs", "refusalsBy", "(I)I"⟩ prog_1_method_51_code 3 (some (.int)) ∈ xTs := xt_6 191 rfl rfl
theorem xp_X11_refusalsBy : (⟨"MirrorHeirs", "refusalsBy", "(I)I"⟩ : MethodName).cls ≠ "java/lang/invoke/MethodHandle" ∧ (⟨"MirrorHeirs", "refusalsBy", "(I)I"⟩ : MethodName).cls ≠ "java/lang/invoke/VarHandle" ∧ (parseMethodDescriptor (⟨"MirrorHeirs", "refusalsBy", "(I)I"⟩ : MethodName).desc).map (fun d => d.parameters.length) = some 1 := by decide +kernel
theorem xs_X11_refused : Cond.instanceMethod ⟨"MirrorHeirs", "refused", "(I)I"⟩ ∈ xTs := xt_3 33 rfl rfl
theorem xq_X11_refused : Cond.selects "MirrorHeirs" ⟨"MirrorHeirs", "refused", "(I)I"⟩ ⟨"MirrorHeirs", "refused", "(I)I"⟩ ∈ xTs := xp1 0 rfl
theorem xz_X11_refused : Cond.initialized "MirrorHeirs" ∈ xTs := xt_1 1 rfl rfl
theorem xe_X11_refused : Cond.code ⟨"MirrorHeirs", "refused", "(I)I"⟩ prog_1_method_47_code 3 (some (.int)) ∈ xTs := xt_3 34 rfl rfl
theorem xp_X11_refused : (⟨"MirrorHeirs", "refused", "(I)I"⟩ : MethodName).cls ≠ "java/lang/invoke/MethodHandle" ∧ (⟨"MirrorHeirs", "refused", "(I)I"⟩ : MethodName).cls ≠ "java/lang/invoke/VarHandle" ∧ (parseMethodDescriptor (⟨"MirrorHeirs", "refused", "(I)I"⟩ : MethodName).desc).map (fun d => d.parameters.length) = some 1 := by decide +kernel
theorem xs_X11_reveal : Cond.instanceMethod ⟨"MirrorHeirs", "reveal", "(IIII)I"⟩ ∈ xTs := xt_6 63 rfl rfl
theorem xq_X11_reveal : Cond.selects "MirrorHeirs" ⟨"MirrorHeirs", "reveal", "(IIII)I"⟩ ⟨"MirrorHeirs", "reveal", "(IIII)I"⟩ ∈ xTs := xt_6 64 rfl rfl
theorem xz_X11_reveal : Cond.initialized "MirrorHeirs" ∈ xTs := xt_1 1 rfl rfl
theorem xe_X11_reveal : Cond.code ⟨"MirrorHeirs", "reveal", "(IIII)I"⟩ prog_1_method_36_code 6 (some (.int)) ∈ xTs := xt_6 65 rfl rfl
theorem xp_X11_reveal : (⟨"MirrorHeirs", "reveal", "(IIII)I"⟩ : MethodName).cls ≠ "java/lang/invoke/MethodHandle" ∧ (⟨"MirrorHeirs", "reveal", "(IIII)I"⟩ : MethodName).cls ≠ "java/lang/invoke/VarHandle" ∧ (parseMethodDescriptor (⟨"MirrorHeirs", "reveal", "(IIII)I"⟩ : MethodName).desc).map (fun d => d.parameters.length) = some 4 := by decide +kernel
theorem xs_X11_row : Cond.instanceMethod ⟨"MirrorHeirs", "row", "()I"⟩ ∈ xTs := xt_3 194 rfl rfl
theorem xq_X11_row : Cond.selects "MirrorHeirs" ⟨"MirrorHeirs", "row", "()I"⟩ ⟨"MirrorHeirs", "row", "()I"⟩ ∈ xTs := xt_3 195 rfl rfl
theorem xz_X11_row : Cond.initialized "MirrorHeirs" ∈ xTs := xt_1 1 rfl rfl
theorem xe_X11_row : Cond.code ⟨"MirrorHeirs", "row", "()I"⟩ prog_1_method_15_code 6 (some (.int)) ∈ xTs := xt_3 196 rfl rfl
theorem xp_X11_row : (⟨"MirrorHeirs", "row", "()I"⟩ : MethodName).cls ≠ "java/lang/invoke/MethodHandle" ∧ (⟨"MirrorHeirs", "row", "()I"⟩ : MethodName).cls ≠ "java/lang/invoke/VarHandle" ∧ (parseMethodDescriptor (⟨"MirrorHeirs", "row", "()I"⟩ : MethodName).desc).map (fun d => d.parameters.length) = some 0 := by decide +kernel
theorem xs_X11_sees : Cond.instanceMethod ⟨"MirrorHeirs", "sees", "(II)Z"⟩ ∈ xTs := xt_5 139 rfl rfl
theorem xq_X11_sees : Cond.selects "MirrorHeirs" ⟨"MirrorHeirs", "sees", "(II)Z"⟩ ⟨"MirrorHeirs", "sees", "(II)Z"⟩ ∈ xTs := xp3 4 rfl
theorem xz_X11_sees : Cond.initialized "MirrorHeirs" ∈ xTs := xt_1 1 rfl rfl
theorem xe_X11_sees : Cond.code ⟨"MirrorHeirs", "sees", "(II)Z"⟩ prog_1_method_53_code 3 (some (.boolean)) ∈ xTs := xt_5 140 rfl rfl
theorem xp_X11_sees : (⟨"MirrorHeirs", "sees", "(II)Z"⟩ : MethodName).cls ≠ "java/lang/invoke/MethodHandle" ∧ (⟨"MirrorHeirs", "sees", "(II)Z"⟩ : MethodName).cls ≠ "java/lang/invoke/VarHandle" ∧ (parseMethodDescriptor (⟨"MirrorHeirs", "sees", "(II)Z"⟩ : MethodName).desc).map (fun d => d.parameters.length) = some 2 := by decide +kernel
theorem xs_X11_stand : Cond.instanceMethod ⟨"MirrorHeirs", "stand", "(II)I"⟩ ∈ xTs := xt_5 192 rfl rfl
theorem xq_X11_stand : Cond.selects "MirrorHeirs" ⟨"MirrorHeirs", "stand", "(II)I"⟩ ⟨"MirrorHeirs", "stand", "(II)I"⟩ ∈ xTs := xt_5 193 rfl rfl
theorem xz_X11_stand : Cond.initialized "MirrorHeirs" ∈ xTs := xt_1 1 rfl rfl
theorem xe_X11_stand : Cond.code ⟨"MirrorHeirs", "stand", "(II)I"⟩ prog_1_method_30_code 3 (some (.int)) ∈ xTs := xt_5 194 rfl rfl
theorem xp_X11_stand : (⟨"MirrorHeirs", "stand", "(II)I"⟩ : MethodName).cls ≠ "java/lang/invoke/MethodHandle" ∧ (⟨"MirrorHeirs", "stand", "(II)I"⟩ : MethodName).cls ≠ "java/lang/invoke/VarHandle" ∧ (parseMethodDescriptor (⟨"MirrorHeirs", "stand", "(II)I"⟩ : MethodName).desc).map (fun d => d.parameters.length) = some 2 := by decide +kernel
theorem xs_X11_status : Cond.instanceMethod ⟨"MirrorHeirs", "status", "()I"⟩ ∈ xTs := xt_6 193 rfl rfl
theorem xq_X11_status : Cond.selects "MirrorHeirs" ⟨"MirrorHeirs", "status", "()I"⟩ ⟨"MirrorHeirs", "status", "()I"⟩ ∈ xTs := xt_6 194 rfl rfl
theorem xz_X11_status : Cond.initialized "MirrorHeirs" ∈ xTs := xt_1 1 rfl rfl
theorem xe_X11_status : Cond.code ⟨"MirrorHeirs", "status", "()I"⟩ prog_1_method_46_code 1 (some (.int)) ∈ xTs := xt_6 195 rfl rfl
theorem xp_X11_status : (⟨"MirrorHeirs", "status", "()I"⟩ : MethodName).cls ≠ "java/lang/invoke/MethodHandle" ∧ (⟨"MirrorHeirs", "status", "()I"⟩ : MethodName).cls ≠ "java/lang/invoke/VarHandle" ∧ (parseMethodDescriptor (⟨"MirrorHeirs", "status", "()I"⟩ : MethodName).desc).map (fun d => d.parameters.length) = some 0 := by decide +kernel
theorem xs_X11_step : Cond.static ⟨"MirrorHeirs", "step", "(II)I"⟩ ∈ xTs := xt_4 237 rfl rfl
theorem xz_X11_step : Cond.initialized "MirrorHeirs" ∈ xTs := xt_1 1 rfl rfl
theorem xe_X11_step : Cond.code ⟨"MirrorHeirs", "step", "(II)I"⟩ prog_1_method_63_code 2 (some (.int)) ∈ xTs := xt_4 238 rfl rfl
theorem xp_X11_step : (⟨"MirrorHeirs", "step", "(II)I"⟩ : MethodName).cls ≠ "java/lang/invoke/MethodHandle" ∧ (⟨"MirrorHeirs", "step", "(II)I"⟩ : MethodName).cls ≠ "java/lang/invoke/VarHandle" ∧ (parseMethodDescriptor (⟨"MirrorHeirs", "step", "(II)I"⟩ : MethodName).desc).map (fun d => d.parameters.length) = some 2 := by decide +kernel
theorem xs_X11_stopped : Cond.instanceMethod ⟨"MirrorHeirs", "stopped", "()I"⟩ ∈ xTs := xt_5 107 rfl rfl
theorem xq_X11_stopped : Cond.selects "MirrorHeirs" ⟨"MirrorHeirs", "stopped", "()I"⟩ ⟨"MirrorHeirs", "stopped", "()I"⟩ ∈ xTs := xt_5 108 rfl rfl
theorem xz_X11_stopped : Cond.initialized "MirrorHeirs" ∈ xTs := xt_1 1 rfl rfl
theorem xe_X11_stopped : Cond.code ⟨"MirrorHeirs", "stopped", "()I"⟩ prog_1_method_20_code 1 (some (.int)) ∈ xTs := xt_5 109 rfl rfl
theorem xp_X11_stopped : (⟨"MirrorHeirs", "stopped", "()I"⟩ : MethodName).cls ≠ "java/lang/invoke/MethodHandle" ∧ (⟨"MirrorHeirs", "stopped", "()I"⟩ : MethodName).cls ≠ "java/lang/invoke/VarHandle" ∧ (parseMethodDescriptor (⟨"MirrorHeirs", "stopped", "()I"⟩ : MethodName).desc).map (fun d => d.parameters.length) = some 0 := by decide +kernel
theorem xs_X11_stranger : Cond.instanceMethod ⟨"MirrorHeirs", "stranger", "(I)I"⟩ ∈ xTs := xt_6 43 rfl rfl
theorem xq_X11_stranger : Cond.selects "MirrorHeirs" ⟨"MirrorHeirs", "stranger", "(I)I"⟩ ⟨"MirrorHeirs", "stranger", "(I)I"⟩ ∈ xTs := xt_6 44 rfl rfl
theorem xz_X11_stranger : Cond.initialized "MirrorHeirs" ∈ xTs := xt_1 1 rfl rfl
theorem xe_X11_stranger : Cond.code ⟨"MirrorHeirs", "stranger", "(I)I"⟩ prog_1_method_34_code 2 (some (.int)) ∈ xTs := xt_6 45 rfl rfl
theorem xp_X11_stranger : (⟨"MirrorHeirs", "stranger", "(I)I"⟩ : MethodName).cls ≠ "java/lang/invoke/MethodHandle" ∧ (⟨"MirrorHeirs", "stranger", "(I)I"⟩ : MethodName).cls ≠ "java/lang/invoke/VarHandle" ∧ (parseMethodDescriptor (⟨"MirrorHeirs", "stranger", "(I)I"⟩ : MethodName).desc).map (fun d => d.parameters.length) = some 1 := by decide +kernel
theorem xs_X11_telling : Cond.instanceMethod ⟨"MirrorHeirs", "telling", "(III)I"⟩ ∈ xTs := xt_5 226 rfl rfl
theorem xq_X11_telling : Cond.selects "MirrorHeirs" ⟨"MirrorHeirs", "telling", "(III)I"⟩ ⟨"MirrorHeirs", "telling", "(III)I"⟩ ∈ xTs := xt_5 227 rfl rfl
theorem xz_X11_telling : Cond.initialized "MirrorHeirs" ∈ xTs := xt_1 1 rfl rfl
theorem xe_X11_telling : Cond.code ⟨"MirrorHeirs", "telling", "(III)I"⟩ prog_1_method_31_code 4 (some (.int)) ∈ xTs := xt_5 228 rfl rfl
theorem xp_X11_telling : (⟨"MirrorHeirs", "telling", "(III)I"⟩ : MethodName).cls ≠ "java/lang/invoke/MethodHandle" ∧ (⟨"MirrorHeirs", "telling", "(III)I"⟩ : MethodName).cls ≠ "java/lang/invoke/VarHandle" ∧ (parseMethodDescriptor (⟨"MirrorHeirs", "telling", "(III)I"⟩ : MethodName).desc).map (fun d => d.parameters.length) = some 3 := by decide +kernel
theorem xs_X11_terms : Cond.instanceMethod ⟨"MirrorHeirs", "terms", "(II)I"⟩ ∈ xTs := xt_3 166 rfl rfl
theorem xq_X11_terms : Cond.selects "MirrorHeirs" ⟨"MirrorHeirs", "terms", "(II)I"⟩ ⟨"MirrorHeirs", "terms", "(II)I"⟩ ∈ xTs := xt_3 167 rfl rfl
theorem xz_X11_terms : Cond.initialized "MirrorHeirs" ∈ xTs := xt_1 1 rfl rfl
theorem xe_X11_terms : Cond.code ⟨"MirrorHeirs", "terms", "(II)I"⟩ prog_1_method_12_code 4 (some (.int)) ∈ xTs := xt_3 168 rfl rfl
theorem xp_X11_terms : (⟨"MirrorHeirs", "terms", "(II)I"⟩ : MethodName).cls ≠ "java/lang/invoke/MethodHandle" ∧ (⟨"MirrorHeirs", "terms", "(II)I"⟩ : MethodName).cls ≠ "java/lang/invoke/VarHandle" ∧ (parseMethodDescriptor (⟨"MirrorHeirs", "terms", "(II)I"⟩ : MethodName).desc).map (fun d => d.parameters.length) = some 2 := by decide +kernel
theorem xs_X11_thing : Cond.instanceMethod ⟨"MirrorHeirs", "thing", "(III)I"⟩ ∈ xTs := xt_3 158 rfl rfl
theorem xq_X11_thing : Cond.selects "MirrorHeirs" ⟨"MirrorHeirs", "thing", "(III)I"⟩ ⟨"MirrorHeirs", "thing", "(III)I"⟩ ∈ xTs := xt_3 159 rfl rfl
theorem xz_X11_thing : Cond.initialized "MirrorHeirs" ∈ xTs := xt_1 1 rfl rfl
theorem xe_X11_thing : Cond.code ⟨"MirrorHeirs", "thing", "(III)I"⟩ prog_1_method_10_code 4 (some (.int)) ∈ xTs := xt_3 160 rfl rfl
theorem xp_X11_thing : (⟨"MirrorHeirs", "thing", "(III)I"⟩ : MethodName).cls ≠ "java/lang/invoke/MethodHandle" ∧ (⟨"MirrorHeirs", "thing", "(III)I"⟩ : MethodName).cls ≠ "java/lang/invoke/VarHandle" ∧ (parseMethodDescriptor (⟨"MirrorHeirs", "thing", "(III)I"⟩ : MethodName).desc).map (fun d => d.parameters.length) = some 3 := by decide +kernel
theorem xs_X11_turn : Cond.instanceMethod ⟨"MirrorHeirs", "turn", "(I)I"⟩ ∈ xTs := xt_3 112 rfl rfl
theorem xq_X11_turn : Cond.selects "MirrorHeirs" ⟨"MirrorHeirs", "turn", "(I)I"⟩ ⟨"MirrorHeirs", "turn", "(I)I"⟩ ∈ xTs := xt_3 113 rfl rfl
theorem xz_X11_turn : Cond.initialized "MirrorHeirs" ∈ xTs := xt_1 1 rfl rfl
theorem xe_X11_turn : Cond.code ⟨"MirrorHeirs", "turn", "(I)I"⟩ prog_1_method_6_code 2 (some (.int)) ∈ xTs := xt_3 114 rfl rfl
theorem xp_X11_turn : (⟨"MirrorHeirs", "turn", "(I)I"⟩ : MethodName).cls ≠ "java/lang/invoke/MethodHandle" ∧ (⟨"MirrorHeirs", "turn", "(I)I"⟩ : MethodName).cls ≠ "java/lang/invoke/VarHandle" ∧ (parseMethodDescriptor (⟨"MirrorHeirs", "turn", "(I)I"⟩ : MethodName).desc).map (fun d => d.parameters.length) = some 1 := by decide +kernel
theorem xs_X11_turned : Cond.instanceMethod ⟨"MirrorHeirs", "turned", "(I)I"⟩ ∈ xTs := xt_5 234 rfl rfl
theorem xq_X11_turned : Cond.selects "MirrorHeirs" ⟨"MirrorHeirs", "turned", "(I)I"⟩ ⟨"MirrorHeirs", "turned", "(I)I"⟩ ∈ xTs := xt_5 235 rfl rfl
theorem xz_X11_turned : Cond.initialized "MirrorHeirs" ∈ xTs := xt_1 1 rfl rfl
theorem xe_X11_turned : Cond.code ⟨"MirrorHeirs", "turned", "(I)I"⟩ prog_1_method_32_code 2 (some (.int)) ∈ xTs := xt_5 236 rfl rfl
theorem xp_X11_turned : (⟨"MirrorHeirs", "turned", "(I)I"⟩ : MethodName).cls ≠ "java/lang/invoke/MethodHandle" ∧ (⟨"MirrorHeirs", "turned", "(I)I"⟩ : MethodName).cls ≠ "java/lang/invoke/VarHandle" ∧ (parseMethodDescriptor (⟨"MirrorHeirs", "turned", "(I)I"⟩ : MethodName).desc).map (fun d => d.parameters.length) = some 1 := by decide +kernel
theorem xs_X11_undo : Cond.instanceMethod ⟨"MirrorHeirs", "undo", "()I"⟩ ∈ xTs := xt_3 150 rfl rfl
theorem xq_X11_undo : Cond.selects "MirrorHeirs" ⟨"MirrorHeirs", "undo", "()I"⟩ ⟨"MirrorHeirs", "undo", "()I"⟩ ∈ xTs := xt_3 151 rfl rfl
theorem xz_X11_undo : Cond.initialized "MirrorHeirs" ∈ xTs := xt_1 1 rfl rfl
theorem xe_X11_undo : Cond.code ⟨"MirrorHeirs", "undo", "()I"⟩ prog_1_method_9_code 2 (some (.int)) ∈ xTs := xt_3 152 rfl rfl
theorem xp_X11_undo : (⟨"MirrorHeirs", "undo", "()I"⟩ : MethodName).cls ≠ "java/lang/invoke/MethodHandle" ∧ (⟨"MirrorHeirs", "undo", "()I"⟩ : MethodName).cls ≠ "java/lang/invoke/VarHandle" ∧ (parseMethodDescriptor (⟨"MirrorHeirs", "undo", "()I"⟩ : MethodName).desc).map (fun d => d.parameters.length) = some 0 := by decide +kernel
theorem xs_X11_views : Cond.instanceMethod ⟨"MirrorHeirs", "views", "(I)I"⟩ ∈ xTs := xt_5 129 rfl rfl
theorem xq_X11_views : Cond.selects "MirrorHeirs" ⟨"MirrorHeirs", "views", "(I)I"⟩ ⟨"MirrorHeirs", "views", "(I)I"⟩ ∈ xTs := xt_5 130 rfl rfl
theorem xz_X11_views : Cond.initialized "MirrorHeirs" ∈ xTs := xt_1 1 rfl rfl
theorem xe_X11_views : Cond.code ⟨"MirrorHeirs", "views", "(I)I"⟩ prog_1_method_24_code 2 (some (.int)) ∈ xTs := xt_5 131 rfl rfl
theorem xp_X11_views : (⟨"MirrorHeirs", "views", "(I)I"⟩ : MethodName).cls ≠ "java/lang/invoke/MethodHandle" ∧ (⟨"MirrorHeirs", "views", "(I)I"⟩ : MethodName).cls ≠ "java/lang/invoke/VarHandle" ∧ (parseMethodDescriptor (⟨"MirrorHeirs", "views", "(I)I"⟩ : MethodName).desc).map (fun d => d.parameters.length) = some 1 := by decide +kernel
theorem xs_X12_arePaired : Cond.instanceMethod ⟨"MirrorHeirsModel", "arePaired", "(II)Z"⟩ ∈ xTs := xt_9 9 rfl rfl
theorem xq_X12_arePaired : Cond.selects "MirrorHeirsModel" ⟨"MirrorHeirsModel", "arePaired", "(II)Z"⟩ ⟨"MirrorHeirsModel", "arePaired", "(II)Z"⟩ ∈ xTs := xp7 10 rfl
theorem xz_X12_arePaired : Cond.initialized "MirrorHeirsModel" ∈ xTs := xt_1 15 rfl rfl
theorem xe_X12_arePaired : Cond.code ⟨"MirrorHeirsModel", "arePaired", "(II)Z"⟩ prog_14_method_89_code 3 (some (.boolean)) ∈ xTs := xt_9 10 rfl rfl
theorem xp_X12_arePaired : (⟨"MirrorHeirsModel", "arePaired", "(II)Z"⟩ : MethodName).cls ≠ "java/lang/invoke/MethodHandle" ∧ (⟨"MirrorHeirsModel", "arePaired", "(II)Z"⟩ : MethodName).cls ≠ "java/lang/invoke/VarHandle" ∧ (parseMethodDescriptor (⟨"MirrorHeirsModel", "arePaired", "(II)Z"⟩ : MethodName).desc).map (fun d => d.parameters.length) = some 2 := by decide +kernel
theorem xs_X12_areSo : Cond.instanceMethod ⟨"MirrorHeirsModel", "areSo", "()Z"⟩ ∈ xTs := xt_9 67 rfl rfl
theorem xq_X12_areSo : Cond.selects "MirrorHeirsModel" ⟨"MirrorHeirsModel", "areSo", "()Z"⟩ ⟨"MirrorHeirsModel", "areSo", "()Z"⟩ ∈ xTs := xp8 0 rfl
theorem xz_X12_areSo : Cond.initialized "MirrorHeirsModel" ∈ xTs := xt_1 15 rfl rfl
theorem xe_X12_areSo : Cond.code ⟨"MirrorHeirsModel", "areSo", "()Z"⟩ prog_14_method_103_code 2 (some (.boolean)) ∈ xTs := xt_9 68 rfl rfl
theorem xp_X12_areSo : (⟨"MirrorHeirsModel", "areSo", "()Z"⟩ : MethodName).cls ≠ "java/lang/invoke/MethodHandle" ∧ (⟨"MirrorHeirsModel", "areSo", "()Z"⟩ : MethodName).cls ≠ "java/lang/invoke/VarHandle" ∧ (parseMethodDescriptor (⟨"MirrorHeirsModel", "areSo", "()Z"⟩ : MethodName).desc).map (fun d => d.parameters.length) = some 0 := by decide +kernel
theorem xs_X12_at : Cond.instanceMethod ⟨"MirrorHeirsModel", "at", "(II)I"⟩ ∈ xTs := xt_7 197 rfl rfl
theorem xq_X12_at : Cond.selects "MirrorHeirsModel" ⟨"MirrorHeirsModel", "at", "(II)I"⟩ ⟨"MirrorHeirsModel", "at", "(II)I"⟩ ∈ xTs := xt_7 198 rfl rfl
theorem xz_X12_at : Cond.initialized "MirrorHeirsModel" ∈ xTs := xt_1 15 rfl rfl
theorem xe_X12_at : Cond.code ⟨"MirrorHeirsModel", "at", "(II)I"⟩ prog_14_method_20_code 3 (some (.int)) ∈ xTs := xt_7 199 rfl rfl
theorem xp_X12_at : (⟨"MirrorHeirsModel", "at", "(II)I"⟩ : MethodName).cls ≠ "java/lang/invoke/MethodHandle" ∧ (⟨"MirrorHeirsModel", "at", "(II)I"⟩ : MethodName).cls ≠ "java/lang/invoke/VarHandle" ∧ (parseMethodDescriptor (⟨"MirrorHeirsModel", "at", "(II)I"⟩ : MethodName).desc).map (fun d => d.parameters.length) = some 2 := by decide +kernel
theorem xs_X12_back : Cond.instanceMethod ⟨"MirrorHeirsModel", "back", "(I)I"⟩ ∈ xTs := xt_7 166 rfl rfl
theorem xq_X12_back : Cond.selects "MirrorHeirsModel" ⟨"MirrorHeirsModel", "back", "(I)I"⟩ ⟨"MirrorHeirsModel", "back", "(I)I"⟩ ∈ xTs := xt_7 167 rfl rfl
theorem xz_X12_back : Cond.initialized "MirrorHeirsModel" ∈ xTs := xt_1 15 rfl rfl
theorem xe_X12_back : Cond.code ⟨"MirrorHeirsModel", "back", "(I)I"⟩ prog_14_method_8_code 3 (some (.int)) ∈ xTs := xt_7 168 rfl rfl
theorem xp_X12_back : (⟨"MirrorHeirsModel", "back", "(I)I"⟩ : MethodName).cls ≠ "java/lang/invoke/MethodHandle" ∧ (⟨"MirrorHeirsModel", "back", "(I)I"⟩ : MethodName).cls ≠ "java/lang/invoke/VarHandle" ∧ (parseMethodDescriptor (⟨"MirrorHeirsModel", "back", "(I)I"⟩ : MethodName).desc).map (fun d => d.parameters.length) = some 1 := by decide +kernel
theorem xs_X12_behind : Cond.static ⟨"MirrorHeirsModel", "behind", "(II)I"⟩ ∈ xTs := xt_8 210 rfl rfl
theorem xz_X12_behind : Cond.initialized "MirrorHeirsModel" ∈ xTs := xt_1 15 rfl rfl
theorem xe_X12_behind : Cond.code ⟨"MirrorHeirsModel", "behind", "(II)I"⟩ prog_14_method_80_code 2 (some (.int)) ∈ xTs := xt_8 211 rfl rfl
theorem xp_X12_behind : (⟨"MirrorHeirsModel", "behind", "(II)I"⟩ : MethodName).cls ≠ "java/lang/invoke/MethodHandle" ∧ (⟨"MirrorHeirsModel", "behind", "(II)I"⟩ : MethodName).cls ≠ "java/lang/invoke/VarHandle" ∧ (parseMethodDescriptor (⟨"MirrorHeirsModel", "behind", "(II)I"⟩ : MethodName).desc).map (fun d => d.parameters.length) = some 2 := by decide +kernel
theorem xs_X12_beside : Cond.static ⟨"MirrorHeirsModel", "beside", "(II)I"⟩ ∈ xTs := xt_8 203 rfl rfl
theorem xz_X12_beside : Cond.initialized "MirrorHeirsModel" ∈ xTs := xt_1 15 rfl rfl
theorem xe_X12_beside : Cond.code ⟨"MirrorHeirsModel", "beside", "(II)I"⟩ prog_14_method_78_code 4 (some (.int)) ∈ xTs := xt_8 204 rfl rfl
theorem xp_X12_beside : (⟨"MirrorHeirsModel", "beside", "(II)I"⟩ : MethodName).cls ≠ "java/lang/invoke/MethodHandle" ∧ (⟨"MirrorHeirsModel", "beside", "(II)I"⟩ : MethodName).cls ≠ "java/lang/invoke/VarHandle" ∧ (parseMethodDescriptor (⟨"MirrorHeirsModel", "beside", "(II)I"⟩ : MethodName).desc).map (fun d => d.parameters.length) = some 2 := by decide +kernel
theorem xs_X12_candle : Cond.instanceMethod ⟨"MirrorHeirsModel", "candle", "(I)I"⟩ ∈ xTs := xt_8 23 rfl rfl
theorem xq_X12_candle : Cond.selects "MirrorHeirsModel" ⟨"MirrorHeirsModel", "candle", "(I)I"⟩ ⟨"MirrorHeirsModel", "candle", "(I)I"⟩ ∈ xTs := xt_8 24 rfl rfl
theorem xz_X12_candle : Cond.initialized "MirrorHeirsModel" ∈ xTs := xt_1 15 rfl rfl
theorem xe_X12_candle : Cond.code ⟨"MirrorHeirsModel", "candle", "(I)I"⟩ prog_14_method_34_code 3 (some (.int)) ∈ xTs := xt_8 25 rfl rfl
theorem xp_X12_candle : (⟨"MirrorHeirsModel", "candle", "(I)I"⟩ : MethodName).cls ≠ "java/lang/invoke/MethodHandle" ∧ (⟨"MirrorHeirsModel", "candle", "(I)I"⟩ : MethodName).cls ≠ "java/lang/invoke/VarHandle" ∧ (parseMethodDescriptor (⟨"MirrorHeirsModel", "candle", "(I)I"⟩ : MethodName).desc).map (fun d => d.parameters.length) = some 1 := by decide +kernel
theorem xs_X12_claim : Cond.instanceMethod ⟨"MirrorHeirsModel", "claim", "(III)I"⟩ ∈ xTs := xt_9 16 rfl rfl
theorem xq_X12_claim : Cond.selects "MirrorHeirsModel" ⟨"MirrorHeirsModel", "claim", "(III)I"⟩ ⟨"MirrorHeirsModel", "claim", "(III)I"⟩ ∈ xTs := xt_9 17 rfl rfl
theorem xz_X12_claim : Cond.initialized "MirrorHeirsModel" ∈ xTs := xt_1 15 rfl rfl
theorem xe_X12_claim : Cond.code ⟨"MirrorHeirsModel", "claim", "(III)I"⟩ prog_14_method_94_code 6 (some (.int)) ∈ xTs := xt_9 18 rfl rfl
theorem xp_X12_claim : (⟨"MirrorHeirsModel", "claim", "(III)I"⟩ : MethodName).cls ≠ "java/lang/invoke/MethodHandle" ∧ (⟨"MirrorHeirsModel", "claim", "(III)I"⟩ : MethodName).cls ≠ "java/lang/invoke/VarHandle" ∧ (parseMethodDescriptor (⟨"MirrorHeirsModel", "claim", "(III)I"⟩ : MethodName).desc).map (fun d => d.parameters.length) = some 3 := by decide +kernel
theorem xs_X12_claimOf : Cond.instanceMethod ⟨"MirrorHeirsModel", "claimOf", "(II)I"⟩ ∈ xTs := xt_9 13 rfl rfl
theorem xq_X12_claimOf : Cond.selects "MirrorHeirsModel" ⟨"MirrorHeirsModel", "claimOf", "(II)I"⟩ ⟨"MirrorHeirsModel", "claimOf", "(II)I"⟩ ∈ xTs := xp7 11 rfl
theorem xz_X12_claimOf : Cond.initialized "MirrorHeirsModel" ∈ xTs := xt_1 15 rfl rfl
theorem xe_X12_claimOf : Cond.code ⟨"MirrorHeirsModel", "claimOf", "(II)I"⟩ prog_14_method_91_code 4 (some (.int)) ∈ xTs := xt_9 14 rfl rfl
theorem xp_X12_claimOf : (⟨"MirrorHeirsModel", "claimOf", "(II)I"⟩ : MethodName).cls ≠ "java/lang/invoke/MethodHandle" ∧ (⟨"MirrorHeirsModel", "claimOf", "(II)I"⟩ : MethodName).cls ≠ "java/lang/invoke/VarHandle" ∧ (parseMethodDescriptor (⟨"MirrorHeirsModel", "claimOf", "(II)I"⟩ : MethodName).desc).map (fun d => d.parameters.length) = some 2 := by decide +kernel
theorem xs_X12_codeAt : Cond.instanceMethod ⟨"MirrorHeirsModel", "codeAt", "(I)I"⟩ ∈ xTs := xt_8 162 rfl rfl
theorem xq_X12_codeAt : Cond.selects "MirrorHeirsModel" ⟨"MirrorHeirsModel", "codeAt", "(I)I"⟩ ⟨"MirrorHeirsModel", "codeAt", "(I)I"⟩ ∈ xTs := xp6 10 rfl
theorem xz_X12_codeAt : Cond.initialized "MirrorHeirsModel" ∈ xTs := xt_1 15 rfl rfl
theorem xe_X12_codeAt : Cond.code ⟨"MirrorHeirsModel", "codeAt", "(I)I"⟩ prog_14_method_66_code 2 (some (.int)) ∈ xTs := xt_8 163 rfl rfl
theorem xp_X12_codeAt : (⟨"MirrorHeirsModel", "codeAt", "(I)I"⟩ : MethodName).cls ≠ "java/lang/invoke/MethodHandle" ∧ (⟨"MirrorHeirsModel", "codeAt", "(I)I"⟩ : MethodName).cls ≠ "java/lang/invoke/VarHandle" ∧ (parseMethodDescriptor (⟨"MirrorHeirsModel", "codeAt", "(I)I"⟩ : MethodName).desc).map (fun d => d.parameters.length) = some 1 := by decide +kernel
theorem xs_X12_common : Cond.static ⟨"MirrorHeirsModel", "common", "(II)I"⟩ ∈ xTs := xt_9 24 rfl rfl
theorem xz_X12_common : Cond.initialized "MirrorHeirsModel" ∈ xTs := xt_1 15 rfl rfl
theorem xe_X12_common : Cond.code ⟨"MirrorHeirsModel", "common", "(II)I"⟩ prog_14_method_93_code 5 (some (.int)) ∈ xTs := xt_9 25 rfl rfl
theorem xp_X12_common : (⟨"MirrorHeirsModel", "common", "(II)I"⟩ : MethodName).cls ≠ "java/lang/invoke/MethodHandle" ∧ (⟨"MirrorHeirsModel", "common", "(II)I"⟩ : MethodName).cls ≠ "java/lang/invoke/VarHandle" ∧ (parseMethodDescriptor (⟨"MirrorHeirsModel", "common", "(II)I"⟩ : MethodName).desc).map (fun d => d.parameters.length) = some 2 := by decide +kernel
theorem xs_X12_count : Cond.instanceMethod ⟨"MirrorHeirsModel", "count", "(I)I"⟩ ∈ xTs := xt_9 159 rfl rfl
theorem xq_X12_count : Cond.selects "MirrorHeirsModel" ⟨"MirrorHeirsModel", "count", "(I)I"⟩ ⟨"MirrorHeirsModel", "count", "(I)I"⟩ ∈ xTs := xt_9 160 rfl rfl
theorem xz_X12_count : Cond.initialized "MirrorHeirsModel" ∈ xTs := xt_1 15 rfl rfl
theorem xe_X12_count : Cond.code ⟨"MirrorHeirsModel", "count", "(I)I"⟩ prog_14_method_126_code 2 (some (.int)) ∈ xTs := xt_9 161 rfl rfl
theorem xp_X12_count : (⟨"MirrorHeirsModel", "count", "(I)I"⟩ : MethodName).cls ≠ "java/lang/invoke/MethodHandle" ∧ (⟨"MirrorHeirsModel", "count", "(I)I"⟩ : MethodName).cls ≠ "java/lang/invoke/VarHandle" ∧ (parseMethodDescriptor (⟨"MirrorHeirsModel", "count", "(I)I"⟩ : MethodName).desc).map (fun d => d.parameters.length) = some 1 := by decide +kernel
theorem xs_X12_draughts : Cond.instanceMethod ⟨"MirrorHeirsModel", "draughts", "(II)I"⟩ ∈ xTs := xt_9 144 rfl rfl
theorem xq_X12_draughts : Cond.selects "MirrorHeirsModel" ⟨"MirrorHeirsModel", "draughts", "(II)I"⟩ ⟨"MirrorHeirsModel", "draughts", "(II)I"⟩ ∈ xTs := xt_9 145 rfl rfl
theorem xz_X12_draughts : Cond.initialized "MirrorHeirsModel" ∈ xTs := xt_1 15 rfl rfl
theorem xe_X12_draughts : Cond.code ⟨"MirrorHeirsModel", "draughts", "(II)I"⟩ prog_14_method_124_code 8 (some (.int)) ∈ xTs := xt_9 146 rfl rfl
theorem xp_X12_draughts : (⟨"MirrorHeirsModel", "draughts", "(II)I"⟩ : MethodName).cls ≠ "java/lang/invoke/MethodHandle" ∧ (⟨"MirrorHeirsModel", "draughts", "(II)I"⟩ : MethodName).cls ≠ "java/lang/invoke/VarHandle" ∧ (parseMethodDescriptor (⟨"MirrorHeirsModel", "draughts", "(II)I"⟩ : MethodName).desc).map (fun d => d.parameters.length) = some 2 := by decide +kernel
theorem xs_X12_drawn : Cond.instanceMethod ⟨"MirrorHeirsModel", "drawn", "(II)I"⟩ ∈ xTs := xt_9 155 rfl rfl
theorem xq_X12_drawn : Cond.selects "MirrorHeirsModel" ⟨"MirrorHeirsModel", "drawn", "(II)I"⟩ ⟨"MirrorHeirsModel", "drawn", "(II)I"⟩ ∈ xTs := xt_9 156 rfl rfl
theorem xz_X12_drawn : Cond.initialized "MirrorHeirsModel" ∈ xTs := xt_1 15 rfl rfl
theorem xe_X12_drawn : Cond.code ⟨"MirrorHeirsModel", "drawn", "(II)I"⟩ prog_14_method_125_code 3 (some (.int)) ∈ xTs := xt_9 157 rfl rfl
theorem xp_X12_drawn : (⟨"MirrorHeirsModel", "drawn", "(II)I"⟩ : MethodName).cls ≠ "java/lang/invoke/MethodHandle" ∧ (⟨"MirrorHeirsModel", "drawn", "(II)I"⟩ : MethodName).cls ≠ "java/lang/invoke/VarHandle" ∧ (parseMethodDescriptor (⟨"MirrorHeirsModel", "drawn", "(II)I"⟩ : MethodName).desc).map (fun d => d.parameters.length) = some 2 := by decide +kernel
theorem xs_X12_draws : Cond.instanceMethod ⟨"MirrorHeirsModel", "draws", "(I)I"⟩ ∈ xTs := xt_9 149 rfl rfl
theorem xq_X12_draws : Cond.selects "MirrorHeirsModel" ⟨"MirrorHeirsModel", "draws", "(I)I"⟩ ⟨"MirrorHeirsModel", "draws", "(I)I"⟩ ∈ xTs := xp8 8 rfl
theorem xz_X12_draws : Cond.initialized "MirrorHeirsModel" ∈ xTs := xt_1 15 rfl rfl
theorem xe_X12_draws : Cond.code ⟨"MirrorHeirsModel", "draws", "(I)I"⟩ prog_14_method_123_code 2 (some (.int)) ∈ xTs := xt_9 150 rfl rfl
theorem xp_X12_draws : (⟨"MirrorHeirsModel", "draws", "(I)I"⟩ : MethodName).cls ≠ "java/lang/invoke/MethodHandle" ∧ (⟨"MirrorHeirsModel", "draws", "(I)I"⟩ : MethodName).cls ≠ "java/lang/invoke/VarHandle" ∧ (parseMethodDescriptor (⟨"MirrorHeirsModel", "draws", "(I)I"⟩ : MethodName).desc).map (fun d => d.parameters.length) = some 1 := by decide +kernel
theorem xs_X12_dust : Cond.instanceMethod ⟨"MirrorHeirsModel", "dust", "()I"⟩ ∈ xTs := xt_8 35 rfl rfl
theorem xq_X12_dust : Cond.selects "MirrorHeirsModel" ⟨"MirrorHeirsModel", "dust", "()I"⟩ ⟨"MirrorHeirsModel", "dust", "()I"⟩ ∈ xTs := xt_8 36 rfl rfl
theorem xz_X12_dust : Cond.initialized "MirrorHeirsModel" ∈ xTs := xt_1 15 rfl rfl
theorem xe_X12_dust : Cond.code ⟨"MirrorHeirsModel", "dust", "()I"⟩ prog_14_method_37_code 1 (some (.int)) ∈ xTs := xt_8 37 rfl rfl
theorem xp_X12_dust : (⟨"MirrorHeirsModel", "dust", "()I"⟩ : MethodName).cls ≠ "java/lang/invoke/MethodHandle" ∧ (⟨"MirrorHeirsModel", "dust", "()I"⟩ : MethodName).cls ≠ "java/lang/invoke/VarHandle" ∧ (parseMethodDescriptor (⟨"MirrorHeirsModel", "dust", "()I"⟩ : MethodName).desc).map (fun d => d.parameters.length) = some 0 := by decide +kernel
theorem xs_X12_end : Cond.instanceMethod ⟨"MirrorHeirsModel", "end", "(I)I"⟩ ∈ xTs := xt_8 43 rfl rfl
theorem xq_X12_end : Cond.selects "MirrorHeirsModel" ⟨"MirrorHeirsModel", "end", "(I)I"⟩ ⟨"MirrorHeirsModel", "end", "(I)I"⟩ ∈ xTs := xt_8 44 rfl rfl
theorem xz_X12_end : Cond.initialized "MirrorHeirsModel" ∈ xTs := xt_1 15 rfl rfl
theorem xe_X12_end : Cond.code ⟨"MirrorHeirsModel", "end", "(I)I"⟩ prog_14_method_39_code 2 (some (.int)) ∈ xTs := xt_8 45 rfl rfl
theorem xp_X12_end : (⟨"MirrorHeirsModel", "end", "(I)I"⟩ : MethodName).cls ≠ "java/lang/invoke/MethodHandle" ∧ (⟨"MirrorHeirsModel", "end", "(I)I"⟩ : MethodName).cls ≠ "java/lang/invoke/VarHandle" ∧ (parseMethodDescriptor (⟨"MirrorHeirsModel", "end", "(I)I"⟩ : MethodName).desc).map (fun d => d.parameters.length) = some 1 := by decide +kernel
theorem xs_X12_estate : Cond.instanceMethod ⟨"MirrorHeirsModel", "estate", "(I)I"⟩ ∈ xTs := xt_9 31 rfl rfl
theorem xq_X12_estate : Cond.selects "MirrorHeirsModel" ⟨"MirrorHeirsModel", "estate", "(I)I"⟩ ⟨"MirrorHeirsModel", "estate", "(I)I"⟩ ∈ xTs := xt_9 32 rfl rfl
theorem xz_X12_estate : Cond.initialized "MirrorHeirsModel" ∈ xTs := xt_1 15 rfl rfl
theorem xe_X12_estate : Cond.code ⟨"MirrorHeirsModel", "estate", "(I)I"⟩ prog_14_method_96_code 2 (some (.int)) ∈ xTs := xt_9 33 rfl rfl
theorem xp_X12_estate : (⟨"MirrorHeirsModel", "estate", "(I)I"⟩ : MethodName).cls ≠ "java/lang/invoke/MethodHandle" ∧ (⟨"MirrorHeirsModel", "estate", "(I)I"⟩ : MethodName).cls ≠ "java/lang/invoke/VarHandle" ∧ (parseMethodDescriptor (⟨"MirrorHeirsModel", "estate", "(I)I"⟩ : MethodName).desc).map (fun d => d.parameters.length) = some 1 := by decide +kernel
theorem xs_X12_fault : Cond.instanceMethod ⟨"MirrorHeirsModel", "fault", "()I"⟩ ∈ xTs := xt_8 141 rfl rfl
theorem xq_X12_fault : Cond.selects "MirrorHeirsModel" ⟨"MirrorHeirsModel", "fault", "()I"⟩ ⟨"MirrorHeirsModel", "fault", "()I"⟩ ∈ xTs := xt_8 142 rfl rfl
theorem xz_X12_fault : Cond.initialized "MirrorHeirsModel" ∈ xTs := xt_1 15 rfl rfl
theorem xe_X12_fault : Cond.code ⟨"MirrorHeirsModel", "fault", "()I"⟩ prog_14_method_64_code 1 (some (.int)) ∈ xTs := xt_8 143 rfl rfl
theorem xp_X12_fault : (⟨"MirrorHeirsModel", "fault", "()I"⟩ : MethodName).cls ≠ "java/lang/invoke/MethodHandle" ∧ (⟨"MirrorHeirsModel", "fault", "()I"⟩ : MethodName).cls ≠ "java/lang/invoke/VarHandle" ∧ (parseMethodDescriptor (⟨"MirrorHeirsModel", "fault", "()I"⟩ : MethodName).desc).map (fun d => d.parameters.length) = some 0 := by decide +kernel
theorem xs_X12_faults : Cond.instanceMethod ⟨"MirrorHeirsModel", "faults", "()V"⟩ ∈ xTs := xt_8 106 rfl rfl
theorem xq_X12_faults : Cond.selects "MirrorHeirsModel" ⟨"MirrorHeirsModel", "faults", "()V"⟩ ⟨"MirrorHeirsModel", "faults", "()V"⟩ ∈ xTs := xp5 15 rfl
theorem xz_X12_faults : Cond.initialized "MirrorHeirsModel" ∈ xTs := xt_1 15 rfl rfl
theorem xe_X12_faults : Cond.code ⟨"MirrorHeirsModel", "faults", "()V"⟩ prog_14_method_45_code 1 none ∈ xTs := xt_8 107 rfl rfl
theorem xp_X12_faults : (⟨"MirrorHeirsModel", "faults", "()V"⟩ : MethodName).cls ≠ "java/lang/invoke/MethodHandle" ∧ (⟨"MirrorHeirsModel", "faults", "()V"⟩ : MethodName).cls ≠ "java/lang/invoke/VarHandle" ∧ (parseMethodDescriptor (⟨"MirrorHeirsModel", "faults", "()V"⟩ : MethodName).desc).map (fun d => d.parameters.length) = some 0 := by decide +kernel
theorem xs_X12_feed : Cond.instanceMethod ⟨"MirrorHeirsModel", "feed", "(IIIII)I"⟩ ∈ xTs := xt_8 39 rfl rfl
theorem xq_X12_feed : Cond.selects "MirrorHeirsModel" ⟨"MirrorHeirsModel", "feed", "(IIIII)I"⟩ ⟨"MirrorHeirsModel", "feed", "(IIIII)I"⟩ ∈ xTs := xt_8 40 rfl rfl
theorem xz_X12_feed : Cond.initialized "MirrorHeirsModel" ∈ xTs := xt_1 15 rfl rfl
theorem xe_X12_feed : Cond.code ⟨"MirrorHeirsModel", "feed", "(IIIII)I"⟩ prog_14_method_38_code 7 (some (.int)) ∈ xTs := xt_8 41 rfl rfl
theorem xp_X12_feed : (⟨"MirrorHeirsModel", "feed", "(IIIII)I"⟩ : MethodName).cls ≠ "java/lang/invoke/MethodHandle" ∧ (⟨"MirrorHeirsModel", "feed", "(IIIII)I"⟩ : MethodName).cls ≠ "java/lang/invoke/VarHandle" ∧ (parseMethodDescriptor (⟨"MirrorHeirsModel", "feed", "(IIIII)I"⟩ : MethodName).desc).map (fun d => d.parameters.length) = some 5 := by decide +kernel
theorem xs_X12_fine : Cond.instanceMethod ⟨"MirrorHeirsModel", "fine", "()Z"⟩ ∈ xTs := xt_8 87 rfl rfl
theorem xq_X12_fine : Cond.selects "MirrorHeirsModel" ⟨"MirrorHeirsModel", "fine", "()Z"⟩ ⟨"MirrorHeirsModel", "fine", "()Z"⟩ ∈ xTs := xp5 11 rfl
theorem xz_X12_fine : Cond.initialized "MirrorHeirsModel" ∈ xTs := xt_1 15 rfl rfl
theorem xe_X12_fine : Cond.code ⟨"MirrorHeirsModel", "fine", "()Z"⟩ prog_14_method_44_code 1 (some (.boolean)) ∈ xTs := xt_8 88 rfl rfl
theorem xp_X12_fine : (⟨"MirrorHeirsModel", "fine", "()Z"⟩ : MethodName).cls ≠ "java/lang/invoke/MethodHandle" ∧ (⟨"MirrorHeirsModel", "fine", "()Z"⟩ : MethodName).cls ≠ "java/lang/invoke/VarHandle" ∧ (parseMethodDescriptor (⟨"MirrorHeirsModel", "fine", "()Z"⟩ : MethodName).desc).map (fun d => d.parameters.length) = some 0 := by decide +kernel
theorem xs_X12_firstAt : Cond.instanceMethod ⟨"MirrorHeirsModel", "firstAt", "(IIII)I"⟩ ∈ xTs := xt_7 186 rfl rfl
theorem xq_X12_firstAt : Cond.selects "MirrorHeirsModel" ⟨"MirrorHeirsModel", "firstAt", "(IIII)I"⟩ ⟨"MirrorHeirsModel", "firstAt", "(IIII)I"⟩ ∈ xTs := xp4 10 rfl
theorem xz_X12_firstAt : Cond.initialized "MirrorHeirsModel" ∈ xTs := xt_1 15 rfl rfl
theorem xe_X12_firstAt : Cond.code ⟨"MirrorHeirsModel", "firstAt", "(IIII)I"⟩ prog_14_method_13_code 6 (some (.int)) ∈ xTs := xt_7 187 rfl rfl
theorem xp_X12_firstAt : (⟨"MirrorHeirsModel", "firstAt", "(IIII)I"⟩ : MethodName).cls ≠ "java/lang/invoke/MethodHandle" ∧ (⟨"MirrorHeirsModel", "firstAt", "(IIII)I"⟩ : MethodName).cls ≠ "java/lang/invoke/VarHandle" ∧ (parseMethodDescriptor (⟨"MirrorHeirsModel", "firstAt", "(IIII)I"⟩ : MethodName).desc).map (fun d => d.parameters.length) = some 4 := by decide +kernel
theorem xs_X12_force : Cond.instanceMethod ⟨"MirrorHeirsModel", "force", "(I)I"⟩ ∈ xTs := xt_8 145 rfl rfl
theorem xq_X12_force : Cond.selects "MirrorHeirsModel" ⟨"MirrorHeirsModel", "force", "(I)I"⟩ ⟨"MirrorHeirsModel", "force", "(I)I"⟩ ∈ xTs := xt_8 146 rfl rfl
theorem xz_X12_force : Cond.initialized "MirrorHeirsModel" ∈ xTs := xt_1 15 rfl rfl
theorem xe_X12_force : Cond.code ⟨"MirrorHeirsModel", "force", "(I)I"⟩ prog_14_method_65_code 3 (some (.int)) ∈ xTs := xt_8 147 rfl rfl
theorem xp_X12_force : (⟨"MirrorHeirsModel", "force", "(I)I"⟩ : MethodName).cls ≠ "java/lang/invoke/MethodHandle" ∧ (⟨"MirrorHeirsModel", "force", "(I)I"⟩ : MethodName).cls ≠ "java/lang/invoke/VarHandle" ∧ (parseMethodDescriptor (⟨"MirrorHeirsModel", "force", "(I)I"⟩ : MethodName).desc).map (fun d => d.parameters.length) = some 1 := by decide +kernel
theorem xs_X12_forget : Cond.instanceMethod ⟨"MirrorHeirsModel", "forget", "()I"⟩ ∈ xTs := xt_9 81 rfl rfl
theorem xq_X12_forget : Cond.selects "MirrorHeirsModel" ⟨"MirrorHeirsModel", "forget", "()I"⟩ ⟨"MirrorHeirsModel", "forget", "()I"⟩ ∈ xTs := xt_9 82 rfl rfl
theorem xz_X12_forget : Cond.initialized "MirrorHeirsModel" ∈ xTs := xt_1 15 rfl rfl
theorem xe_X12_forget : Cond.code ⟨"MirrorHeirsModel", "forget", "()I"⟩ prog_14_method_107_code 2 (some (.int)) ∈ xTs := xt_9 83 rfl rfl
theorem xp_X12_forget : (⟨"MirrorHeirsModel", "forget", "()I"⟩ : MethodName).cls ≠ "java/lang/invoke/MethodHandle" ∧ (⟨"MirrorHeirsModel", "forget", "()I"⟩ : MethodName).cls ≠ "java/lang/invoke/VarHandle" ∧ (parseMethodDescriptor (⟨"MirrorHeirsModel", "forget", "()I"⟩ : MethodName).desc).map (fun d => d.parameters.length) = some 0 := by decide +kernel
theorem xs_X12_glance : Cond.instanceMethod ⟨"MirrorHeirsModel", "glance", "(II)I"⟩ ∈ xTs := xt_8 216 rfl rfl
theorem xq_X12_glance : Cond.selects "MirrorHeirsModel" ⟨"MirrorHeirsModel", "glance", "(II)I"⟩ ⟨"MirrorHeirsModel", "glance", "(II)I"⟩ ∈ xTs := xt_8 217 rfl rfl
theorem xz_X12_glance : Cond.initialized "MirrorHeirsModel" ∈ xTs := xt_1 15 rfl rfl
theorem xe_X12_glance : Cond.code ⟨"MirrorHeirsModel", "glance", "(II)I"⟩ prog_14_method_85_code 3 (some (.int)) ∈ xTs := xt_8 218 rfl rfl
theorem xp_X12_glance : (⟨"MirrorHeirsModel", "glance", "(II)I"⟩ : MethodName).cls ≠ "java/lang/invoke/MethodHandle" ∧ (⟨"MirrorHeirsModel", "glance", "(II)I"⟩ : MethodName).cls ≠ "java/lang/invoke/VarHandle" ∧ (parseMethodDescriptor (⟨"MirrorHeirsModel", "glance", "(II)I"⟩ : MethodName).desc).map (fun d => d.parameters.length) = some 2 := by decide +kernel
theorem xs_X12_glanceOf : Cond.instanceMethod ⟨"MirrorHeirsModel", "glanceOf", "(II)I"⟩ ∈ xTs := xt_9 90 rfl rfl
theorem xq_X12_glanceOf : Cond.selects "MirrorHeirsModel" ⟨"MirrorHeirsModel", "glanceOf", "(II)I"⟩ ⟨"MirrorHeirsModel", "glanceOf", "(II)I"⟩ ∈ xTs := xp8 1 rfl
theorem xz_X12_glanceOf : Cond.initialized "MirrorHeirsModel" ∈ xTs := xt_1 15 rfl rfl
theorem xe_X12_glanceOf : Cond.code ⟨"MirrorHeirsModel", "glanceOf", "(II)I"⟩ prog_14_method_108_code 3 (some (.int)) ∈ xTs := xt_9 91 rfl rfl
theorem xp_X12_glanceOf : (⟨"MirrorHeirsModel", "glanceOf", "(II)I"⟩ : MethodName).cls ≠ "java/lang/invoke/MethodHandle" ∧ (⟨"MirrorHeirsModel", "glanceOf", "(II)I"⟩ : MethodName).cls ≠ "java/lang/invoke/VarHandle" ∧ (parseMethodDescriptor (⟨"MirrorHeirsModel", "glanceOf", "(II)I"⟩ : MethodName).desc).map (fun d => d.parameters.length) = some 2 := by decide +kernel
theorem xs_X12_goesOn : Cond.instanceMethod ⟨"MirrorHeirsModel", "goesOn", "(I)I"⟩ ∈ xTs := xt_8 225 rfl rfl
theorem xq_X12_goesOn : Cond.selects "MirrorHeirsModel" ⟨"MirrorHeirsModel", "goesOn", "(I)I"⟩ ⟨"MirrorHeirsModel", "goesOn", "(I)I"⟩ ∈ xTs := xp7 6 rfl
theorem xz_X12_goesOn : Cond.initialized "MirrorHeirsModel" ∈ xTs := xt_1 15 rfl rfl
theorem xe_X12_goesOn : Cond.code ⟨"MirrorHeirsModel", "goesOn", "(I)I"⟩ prog_14_method_83_code 8 (some (.int)) ∈ xTs := xt_8 226 rfl rfl
theorem xp_X12_goesOn : (⟨"MirrorHeirsModel", "goesOn", "(I)I"⟩ : MethodName).cls ≠ "java/lang/invoke/MethodHandle" ∧ (⟨"MirrorHeirsModel", "goesOn", "(I)I"⟩ : MethodName).cls ≠ "java/lang/invoke/VarHandle" ∧ (parseMethodDescriptor (⟨"MirrorHeirsModel", "goesOn", "(I)I"⟩ : MethodName).desc).map (fun d => d.parameters.length) = some 1 := by decide +kernel
theorem xs_X12_good : Cond.instanceMethod ⟨"MirrorHeirsModel", "good", "(I)I"⟩ ∈ xTs := xt_7 163 rfl rfl
theorem xq_X12_good : Cond.selects "MirrorHeirsModel" ⟨"MirrorHeirsModel", "good", "(I)I"⟩ ⟨"MirrorHeirsModel", "good", "(I)I"⟩ ∈ xTs := xp4 7 rfl
theorem xz_X12_good : Cond.initialized "MirrorHeirsModel" ∈ xTs := xt_1 15 rfl rfl
theorem xe_X12_good : Cond.code ⟨"MirrorHeirsModel", "good", "(I)I"⟩ prog_14_method_3_code 2 (some (.int)) ∈ xTs := xt_7 164 rfl rfl
theorem xp_X12_good : (⟨"MirrorHeirsModel", "good", "(I)I"⟩ : MethodName).cls ≠ "java/lang/invoke/MethodHandle" ∧ (⟨"MirrorHeirsModel", "good", "(I)I"⟩ : MethodName).cls ≠ "java/lang/invoke/VarHandle" ∧ (parseMethodDescriptor (⟨"MirrorHeirsModel", "good", "(I)I"⟩ : MethodName).desc).map (fun d => d.parameters.length) = some 1 := by decide +kernel
theorem xs_X12_heir : Cond.instanceMethod ⟨"MirrorHeirsModel", "heir", "(II)I"⟩ ∈ xTs := xt_7 239 rfl rfl
theorem xq_X12_heir : Cond.selects "MirrorHeirsModel" ⟨"MirrorHeirsModel", "heir", "(II)I"⟩ ⟨"MirrorHeirsModel", "heir", "(II)I"⟩ ∈ xTs := xt_8 0 rfl rfl
theorem xz_X12_heir : Cond.initialized "MirrorHeirsModel" ∈ xTs := xt_1 15 rfl rfl
theorem xe_X12_heir : Cond.code ⟨"MirrorHeirsModel", "heir", "(II)I"⟩ prog_14_method_27_code 4 (some (.int)) ∈ xTs := xt_8 1 rfl rfl
theorem xp_X12_heir : (⟨"MirrorHeirsModel", "heir", "(II)I"⟩ : MethodName).cls ≠ "java/lang/invoke/MethodHandle" ∧ (⟨"MirrorHeirsModel", "heir", "(II)I"⟩ : MethodName).cls ≠ "java/lang/invoke/VarHandle" ∧ (parseMethodDescriptor (⟨"MirrorHeirsModel", "heir", "(II)I"⟩ : MethodName).desc).map (fun d => d.parameters.length) = some 2 := by decide +kernel
theorem xs_X12_heirAt : Cond.instanceMethod ⟨"MirrorHeirsModel", "heirAt", "(I)I"⟩ ∈ xTs := xt_7 182 rfl rfl
theorem xq_X12_heirAt : Cond.selects "MirrorHeirsModel" ⟨"MirrorHeirsModel", "heirAt", "(I)I"⟩ ⟨"MirrorHeirsModel", "heirAt", "(I)I"⟩ ∈ xTs := xp4 9 rfl
theorem xz_X12_heirAt : Cond.initialized "MirrorHeirsModel" ∈ xTs := xt_1 15 rfl rfl
theorem xe_X12_heirAt : Cond.code ⟨"MirrorHeirsModel", "heirAt", "(I)I"⟩ prog_14_method_15_code 2 (some (.int)) ∈ xTs := xt_7 183 rfl rfl
theorem xp_X12_heirAt : (⟨"MirrorHeirsModel", "heirAt", "(I)I"⟩ : MethodName).cls ≠ "java/lang/invoke/MethodHandle" ∧ (⟨"MirrorHeirsModel", "heirAt", "(I)I"⟩ : MethodName).cls ≠ "java/lang/invoke/VarHandle" ∧ (parseMethodDescriptor (⟨"MirrorHeirsModel", "heirAt", "(I)I"⟩ : MethodName).desc).map (fun d => d.parameters.length) = some 1 := by decide +kernel
theorem xs_X12_hide : Cond.instanceMethod ⟨"MirrorHeirsModel", "hide", "(III)I"⟩ ∈ xTs := xt_9 93 rfl rfl
theorem xq_X12_hide : Cond.selects "MirrorHeirsModel" ⟨"MirrorHeirsModel", "hide", "(III)I"⟩ ⟨"MirrorHeirsModel", "hide", "(III)I"⟩ ∈ xTs := xt_9 94 rfl rfl
theorem xz_X12_hide : Cond.initialized "MirrorHeirsModel" ∈ xTs := xt_1 15 rfl rfl
theorem xe_X12_hide : Cond.code ⟨"MirrorHeirsModel", "hide", "(III)I"⟩ prog_14_method_110_code 7 (some (.int)) ∈ xTs := xt_9 95 rfl rfl
theorem xp_X12_hide : (⟨"MirrorHeirsModel", "hide", "(III)I"⟩ : MethodName).cls ≠ "java/lang/invoke/MethodHandle" ∧ (⟨"MirrorHeirsModel", "hide", "(III)I"⟩ : MethodName).cls ≠ "java/lang/invoke/VarHandle" ∧ (parseMethodDescriptor (⟨"MirrorHeirsModel", "hide", "(III)I"⟩ : MethodName).desc).map (fun d => d.parameters.length) = some 3 := by decide +kernel
theorem xs_X12_hides : Cond.instanceMethod ⟨"MirrorHeirsModel", "hides", "(I)I"⟩ ∈ xTs := xt_9 97 rfl rfl
theorem xq_X12_hides : Cond.selects "MirrorHeirsModel" ⟨"MirrorHeirsModel", "hides", "(I)I"⟩ ⟨"MirrorHeirsModel", "hides", "(I)I"⟩ ∈ xTs := xt_9 98 rfl rfl
theorem xz_X12_hides : Cond.initialized "MirrorHeirsModel" ∈ xTs := xt_1 15 rfl rfl
theorem xe_X12_hides : Cond.code ⟨"MirrorHeirsModel", "hides", "(I)I"⟩ prog_14_method_111_code 7 (some (.int)) ∈ xTs := xt_9 99 rfl rfl
theorem xp_X12_hides : (⟨"MirrorHeirsModel", "hides", "(I)I"⟩ : MethodName).cls ≠ "java/lang/invoke/MethodHandle" ∧ (⟨"MirrorHeirsModel", "hides", "(I)I"⟩ : MethodName).cls ≠ "java/lang/invoke/VarHandle" ∧ (parseMethodDescriptor (⟨"MirrorHeirsModel", "hides", "(I)I"⟩ : MethodName).desc).map (fun d => d.parameters.length) = some 1 := by decide +kernel
theorem xs_X12_hint : Cond.instanceMethod ⟨"MirrorHeirsModel", "hint", "(II)I"⟩ ∈ xTs := xt_9 73 rfl rfl
theorem xq_X12_hint : Cond.selects "MirrorHeirsModel" ⟨"MirrorHeirsModel", "hint", "(II)I"⟩ ⟨"MirrorHeirsModel", "hint", "(II)I"⟩ ∈ xTs := xt_9 74 rfl rfl
theorem xz_X12_hint : Cond.initialized "MirrorHeirsModel" ∈ xTs := xt_1 15 rfl rfl
theorem xe_X12_hint : Cond.code ⟨"MirrorHeirsModel", "hint", "(II)I"⟩ prog_14_method_105_code 4 (some (.int)) ∈ xTs := xt_9 75 rfl rfl
theorem xp_X12_hint : (⟨"MirrorHeirsModel", "hint", "(II)I"⟩ : MethodName).cls ≠ "java/lang/invoke/MethodHandle" ∧ (⟨"MirrorHeirsModel", "hint", "(II)I"⟩ : MethodName).cls ≠ "java/lang/invoke/VarHandle" ∧ (parseMethodDescriptor (⟨"MirrorHeirsModel", "hint", "(II)I"⟩ : MethodName).desc).map (fun d => d.parameters.length) = some 2 := by decide +kernel
theorem xs_X12_image : Cond.instanceMethod ⟨"MirrorHeirsModel", "image", "(I)I"⟩ ∈ xTs := xt_7 151 rfl rfl
theorem xq_X12_image : Cond.selects "MirrorHeirsModel" ⟨"MirrorHeirsModel", "image", "(I)I"⟩ ⟨"MirrorHeirsModel", "image", "(I)I"⟩ ∈ xTs := xt_7 152 rfl rfl
theorem xz_X12_image : Cond.initialized "MirrorHeirsModel" ∈ xTs := xt_1 15 rfl rfl
theorem xe_X12_image : Cond.code ⟨"MirrorHeirsModel", "image", "(I)I"⟩ prog_14_method_7_code 3 (some (.int)) ∈ xTs := xt_7 153 rfl rfl
theorem xp_X12_image : (⟨"MirrorHeirsModel", "image", "(I)I"⟩ : MethodName).cls ≠ "java/lang/invoke/MethodHandle" ∧ (⟨"MirrorHeirsModel", "image", "(I)I"⟩ : MethodName).cls ≠ "java/lang/invoke/VarHandle" ∧ (parseMethodDescriptor (⟨"MirrorHeirsModel", "image", "(I)I"⟩ : MethodName).desc).map (fun d => d.parameters.length) = some 1 := by decide +kernel
theorem xs_X12_init : Cond.instanceMethod ⟨"MirrorHeirsModel", "<init>", "()V"⟩ ∈ xTs := xt_6 199 rfl rfl
theorem xz_X12_init : Cond.initialized "MirrorHeirsModel" ∈ xTs := xt_1 15 rfl rfl
theorem xe_X12_init : Cond.code ⟨"MirrorHeirsModel", "<init>", "()V"⟩ prog_14_method_6_code 1 none ∈ xTs := xt_6 200 rfl rfl
theorem xp_X12_init : (⟨"MirrorHeirsModel", "<init>", "()V"⟩ : MethodName).cls ≠ "java/lang/invoke/MethodHandle" ∧ (⟨"MirrorHeirsModel", "<init>", "()V"⟩ : MethodName).cls ≠ "java/lang/invoke/VarHandle" ∧ (parseMethodDescriptor (⟨"MirrorHeirsModel", "<init>", "()V"⟩ : MethodName).desc).map (fun d => d.parameters.length) = some 0 := by decide +kernel
theorem xs_X12_isCell : Cond.static ⟨"MirrorHeirsModel", "isCell", "(I)Z"⟩ ∈ xTs := xt_7 174 rfl rfl
theorem xz_X12_isCell : Cond.initialized "MirrorHeirsModel" ∈ xTs := xt_1 15 rfl rfl
theorem xe_X12_isCell : Cond.code ⟨"MirrorHeirsModel", "isCell", "(I)Z"⟩ prog_14_method_9_code 1 (some (.boolean)) ∈ xTs := xt_7 175 rfl rfl
theorem xp_X12_isCell : (⟨"MirrorHeirsModel", "isCell", "(I)Z"⟩ : MethodName).cls ≠ "java/lang/invoke/MethodHandle" ∧ (⟨"MirrorHeirsModel", "isCell", "(I)Z"⟩ : MethodName).cls ≠ "java/lang/invoke/VarHandle" ∧ (parseMethodDescriptor (⟨"MirrorHeirsModel", "isCell", "(I)Z"⟩ : MethodName).desc).map (fun d => d.parameters.length) = some 1 := by decide +kernel
theorem xs_X12_isDigit : Cond.static ⟨"MirrorHeirsModel", "isDigit", "(I)Z"⟩ ∈ xTs := xt_8 66 rfl rfl
theorem xz_X12_isDigit : Cond.initialized "MirrorHeirsModel" ∈ xTs := xt_1 15 rfl rfl
theorem xe_X12_isDigit : Cond.code ⟨"MirrorHeirsModel", "isDigit", "(I)Z"⟩ prog_14_method_41_code 1 (some (.boolean)) ∈ xTs := xt_8 67 rfl rfl
theorem xp_X12_isDigit : (⟨"MirrorHeirsModel", "isDigit", "(I)Z"⟩ : MethodName).cls ≠ "java/lang/invoke/MethodHandle" ∧ (⟨"MirrorHeirsModel", "isDigit", "(I)Z"⟩ : MethodName).cls ≠ "java/lang/invoke/VarHandle" ∧ (parseMethodDescriptor (⟨"MirrorHeirsModel", "isDigit", "(I)Z"⟩ : MethodName).desc).map (fun d => d.parameters.length) = some 1 := by decide +kernel
theorem xs_X12_isEnd : Cond.instanceMethod ⟨"MirrorHeirsModel", "isEnd", "(II)Z"⟩ ∈ xTs := xt_8 207 rfl rfl
theorem xq_X12_isEnd : Cond.selects "MirrorHeirsModel" ⟨"MirrorHeirsModel", "isEnd", "(II)Z"⟩ ⟨"MirrorHeirsModel", "isEnd", "(II)Z"⟩ ∈ xTs := xp7 4 rfl
theorem xz_X12_isEnd : Cond.initialized "MirrorHeirsModel" ∈ xTs := xt_1 15 rfl rfl
theorem xe_X12_isEnd : Cond.code ⟨"MirrorHeirsModel", "isEnd", "(II)Z"⟩ prog_14_method_81_code 3 (some (.boolean)) ∈ xTs := xt_8 208 rfl rfl
theorem xp_X12_isEnd : (⟨"MirrorHeirsModel", "isEnd", "(II)Z"⟩ : MethodName).cls ≠ "java/lang/invoke/MethodHandle" ∧ (⟨"MirrorHeirsModel", "isEnd", "(II)Z"⟩ : MethodName).cls ≠ "java/lang/invoke/VarHandle" ∧ (parseMethodDescriptor (⟨"MirrorHeirsModel", "isEnd", "(II)Z"⟩ : MethodName).desc).map (fun d => d.parameters.length) = some 2 := by decide +kernel
theorem xs_X12_isGlass : Cond.static ⟨"MirrorHeirsModel", "isGlass", "(I)Z"⟩ ∈ xTs := xt_7 209 rfl rfl
theorem xz_X12_isGlass : Cond.initialized "MirrorHeirsModel" ∈ xTs := xt_1 15 rfl rfl
theorem xe_X12_isGlass : Cond.code ⟨"MirrorHeirsModel", "isGlass", "(I)Z"⟩ prog_14_method_21_code 1 (some (.boolean)) ∈ xTs := xt_7 210 rfl rfl
theorem xp_X12_isGlass : (⟨"MirrorHeirsModel", "isGlass", "(I)Z"⟩ : MethodName).cls ≠ "java/lang/invoke/MethodHandle" ∧ (⟨"MirrorHeirsModel", "isGlass", "(I)Z"⟩ : MethodName).cls ≠ "java/lang/invoke/VarHandle" ∧ (parseMethodDescriptor (⟨"MirrorHeirsModel", "isGlass", "(I)Z"⟩ : MethodName).desc).map (fun d => d.parameters.length) = some 1 := by decide +kernel
theorem xs_X12_isHeir : Cond.instanceMethod ⟨"MirrorHeirsModel", "isHeir", "(I)Z"⟩ ∈ xTs := xt_8 8 rfl rfl
theorem xq_X12_isHeir : Cond.selects "MirrorHeirsModel" ⟨"MirrorHeirsModel", "isHeir", "(I)Z"⟩ ⟨"MirrorHeirsModel", "isHeir", "(I)Z"⟩ ∈ xTs := xp5 2 rfl
theorem xz_X12_isHeir : Cond.initialized "MirrorHeirsModel" ∈ xTs := xt_1 15 rfl rfl
theorem xe_X12_isHeir : Cond.code ⟨"MirrorHeirsModel", "isHeir", "(I)Z"⟩ prog_14_method_11_code 2 (some (.boolean)) ∈ xTs := xt_8 9 rfl rfl
theorem xp_X12_isHeir : (⟨"MirrorHeirsModel", "isHeir", "(I)Z"⟩ : MethodName).cls ≠ "java/lang/invoke/MethodHandle" ∧ (⟨"MirrorHeirsModel", "isHeir", "(I)Z"⟩ : MethodName).cls ≠ "java/lang/invoke/VarHandle" ∧ (parseMethodDescriptor (⟨"MirrorHeirsModel", "isHeir", "(I)Z"⟩ : MethodName).desc).map (fun d => d.parameters.length) = some 1 := by decide +kernel
theorem xs_X12_isIn : Cond.static ⟨"MirrorHeirsModel", "isIn", "(II)Z"⟩ ∈ xTs := xt_9 63 rfl rfl
theorem xz_X12_isIn : Cond.initialized "MirrorHeirsModel" ∈ xTs := xt_1 15 rfl rfl
theorem xe_X12_isIn : Cond.code ⟨"MirrorHeirsModel", "isIn", "(II)Z"⟩ prog_14_method_4_code 2 (some (.boolean)) ∈ xTs := xt_9 64 rfl rfl
theorem xp_X12_isIn : (⟨"MirrorHeirsModel", "isIn", "(II)Z"⟩ : MethodName).cls ≠ "java/lang/invoke/MethodHandle" ∧ (⟨"MirrorHeirsModel", "isIn", "(II)Z"⟩ : MethodName).cls ≠ "java/lang/invoke/VarHandle" ∧ (parseMethodDescriptor (⟨"MirrorHeirsModel", "isIn", "(II)Z"⟩ : MethodName).desc).map (fun d => d.parameters.length) = some 2 := by decide +kernel
theorem xs_X12_isPivot : Cond.instanceMethod ⟨"MirrorHeirsModel", "isPivot", "(I)Z"⟩ ∈ xTs := xt_7 217 rfl rfl
theorem xq_X12_isPivot : Cond.selects "MirrorHeirsModel" ⟨"MirrorHeirsModel", "isPivot", "(I)Z"⟩ ⟨"MirrorHeirsModel", "isPivot", "(I)Z"⟩ ∈ xTs := xp4 14 rfl
theorem xz_X12_isPivot : Cond.initialized "MirrorHeirsModel" ∈ xTs := xt_1 15 rfl rfl
theorem xe_X12_isPivot : Cond.code ⟨"MirrorHeirsModel", "isPivot", "(I)Z"⟩ prog_14_method_10_code 2 (some (.boolean)) ∈ xTs := xt_7 218 rfl rfl
theorem xp_X12_isPivot : (⟨"MirrorHeirsModel", "isPivot", "(I)Z"⟩ : MethodName).cls ≠ "java/lang/invoke/MethodHandle" ∧ (⟨"MirrorHeirsModel", "isPivot", "(I)Z"⟩ : MethodName).cls ≠ "java/lang/invoke/VarHandle" ∧ (parseMethodDescriptor (⟨"MirrorHeirsModel", "isPivot", "(I)Z"⟩ : MethodName).desc).map (fun d => d.parameters.length) = some 1 := by decide +kernel
theorem xs_X12_isSmall : Cond.static ⟨"MirrorHeirsModel", "isSmall", "(I)Z"⟩ ∈ xTs := xt_8 63 rfl rfl
theorem xz_X12_isSmall : Cond.initialized "MirrorHeirsModel" ∈ xTs := xt_1 15 rfl rfl
theorem xe_X12_isSmall : Cond.code ⟨"MirrorHeirsModel", "isSmall", "(I)Z"⟩ prog_14_method_40_code 1 (some (.boolean)) ∈ xTs := xt_8 64 rfl rfl
theorem xp_X12_isSmall : (⟨"MirrorHeirsModel", "isSmall", "(I)Z"⟩ : MethodName).cls ≠ "java/lang/invoke/MethodHandle" ∧ (⟨"MirrorHeirsModel", "isSmall", "(I)Z"⟩ : MethodName).cls ≠ "java/lang/invoke/VarHandle" ∧ (parseMethodDescriptor (⟨"MirrorHeirsModel", "isSmall", "(I)Z"⟩ : MethodName).desc).map (fun d => d.parameters.length) = some 1 := by decide +kernel
theorem xs_X12_isThing : Cond.instanceMethod ⟨"MirrorHeirsModel", "isThing", "(I)Z"⟩ ∈ xTs := xt_9 21 rfl rfl
theorem xq_X12_isThing : Cond.selects "MirrorHeirsModel" ⟨"MirrorHeirsModel", "isThing", "(I)Z"⟩ ⟨"MirrorHeirsModel", "isThing", "(I)Z"⟩ ∈ xTs := xp7 12 rfl
theorem xz_X12_isThing : Cond.initialized "MirrorHeirsModel" ∈ xTs := xt_1 15 rfl rfl
theorem xe_X12_isThing : Cond.code ⟨"MirrorHeirsModel", "isThing", "(I)Z"⟩ prog_14_method_12_code 2 (some (.boolean)) ∈ xTs := xt_9 22 rfl rfl
theorem xp_X12_isThing : (⟨"MirrorHeirsModel", "isThing", "(I)Z"⟩ : MethodName).cls ≠ "java/lang/invoke/MethodHandle" ∧ (⟨"MirrorHeirsModel", "isThing", "(I)Z"⟩ : MethodName).cls ≠ "java/lang/invoke/VarHandle" ∧ (parseMethodDescriptor (⟨"MirrorHeirsModel", "isThing", "(I)Z"⟩ : MethodName).desc).map (fun d => d.parameters.length) = some 1 := by decide +kernel
theorem xs_X12_law : Cond.instanceMethod ⟨"MirrorHeirsModel", "law", "()I"⟩ ∈ xTs := xt_8 47 rfl rfl
theorem xq_X12_law : Cond.selects "MirrorHeirsModel" ⟨"MirrorHeirsModel", "law", "()I"⟩ ⟨"MirrorHeirsModel", "law", "()I"⟩ ∈ xTs := xt_8 48 rfl rfl
theorem xz_X12_law : Cond.initialized "MirrorHeirsModel" ∈ xTs := xt_1 15 rfl rfl
theorem xe_X12_law : Cond.code ⟨"MirrorHeirsModel", "law", "()I"⟩ prog_14_method_63_code 1 (some (.int)) ∈ xTs := xt_8 49 rfl rfl
theorem xp_X12_law : (⟨"MirrorHeirsModel", "law", "()I"⟩ : MethodName).cls ≠ "java/lang/invoke/MethodHandle" ∧ (⟨"MirrorHeirsModel", "law", "()I"⟩ : MethodName).cls ≠ "java/lang/invoke/VarHandle" ∧ (parseMethodDescriptor (⟨"MirrorHeirsModel", "law", "()I"⟩ : MethodName).desc).map (fun d => d.parameters.length) = some 0 := by decide +kernel
theorem xs_X12_lays : Cond.instanceMethod ⟨"MirrorHeirsModel", "lays", "(I)V"⟩ ∈ xTs := xt_8 138 rfl rfl
theorem xq_X12_lays : Cond.selects "MirrorHeirsModel" ⟨"MirrorHeirsModel", "lays", "(I)V"⟩ ⟨"MirrorHeirsModel", "lays", "(I)V"⟩ ∈ xTs := xp6 7 rfl
theorem xz_X12_lays : Cond.initialized "MirrorHeirsModel" ∈ xTs := xt_1 15 rfl rfl
theorem xe_X12_lays : Cond.code ⟨"MirrorHeirsModel", "lays", "(I)V"⟩ prog_14_method_62_code 3 none ∈ xTs := xt_8 139 rfl rfl
theorem xp_X12_lays : (⟨"MirrorHeirsModel", "lays", "(I)V"⟩ : MethodName).cls ≠ "java/lang/invoke/MethodHandle" ∧ (⟨"MirrorHeirsModel", "lays", "(I)V"⟩ : MethodName).cls ≠ "java/lang/invoke/VarHandle" ∧ (parseMethodDescriptor (⟨"MirrorHeirsModel", "lays", "(I)V"⟩ : MethodName).desc).map (fun d => d.parameters.length) = some 1 := by decide +kernel
theorem xs_X12_laysEstates : Cond.instanceMethod ⟨"MirrorHeirsModel", "laysEstates", "()V"⟩ ∈ xTs := xt_9 106 rfl rfl
theorem xq_X12_laysEstates : Cond.selects "MirrorHeirsModel" ⟨"MirrorHeirsModel", "laysEstates", "()V"⟩ ⟨"MirrorHeirsModel", "laysEstates", "()V"⟩ ∈ xTs := xp8 2 rfl
theorem xz_X12_laysEstates : Cond.initialized "MirrorHeirsModel" ∈ xTs := xt_1 15 rfl rfl
theorem xe_X12_laysEstates : Cond.code ⟨"MirrorHeirsModel", "laysEstates", "()V"⟩ prog_14_method_112_code 3 none ∈ xTs := xt_9 107 rfl rfl
theorem xp_X12_laysEstates : (⟨"MirrorHeirsModel", "laysEstates", "()V"⟩ : MethodName).cls ≠ "java/lang/invoke/MethodHandle" ∧ (⟨"MirrorHeirsModel", "laysEstates", "()V"⟩ : MethodName).cls ≠ "java/lang/invoke/VarHandle" ∧ (parseMethodDescriptor (⟨"MirrorHeirsModel", "laysEstates", "()V"⟩ : MethodName).desc).map (fun d => d.parameters.length) = some 0 := by decide +kernel
theorem xs_X12_laysFog : Cond.instanceMethod ⟨"MirrorHeirsModel", "laysFog", "()V"⟩ ∈ xTs := xt_8 154 rfl rfl
theorem xq_X12_laysFog : Cond.selects "MirrorHeirsModel" ⟨"MirrorHeirsModel", "laysFog", "()V"⟩ ⟨"MirrorHeirsModel", "laysFog", "()V"⟩ ∈ xTs := xp6 8 rfl
theorem xz_X12_laysFog : Cond.initialized "MirrorHeirsModel" ∈ xTs := xt_1 15 rfl rfl
theorem xe_X12_laysFog : Cond.code ⟨"MirrorHeirsModel", "laysFog", "()V"⟩ prog_14_method_77_code 4 none ∈ xTs := xt_8 155 rfl rfl
theorem xp_X12_laysFog : (⟨"MirrorHeirsModel", "laysFog", "()V"⟩ : MethodName).cls ≠ "java/lang/invoke/MethodHandle" ∧ (⟨"MirrorHeirsModel", "laysFog", "()V"⟩ : MethodName).cls ≠ "java/lang/invoke/VarHandle" ∧ (parseMethodDescriptor (⟨"MirrorHeirsModel", "laysFog", "()V"⟩ : MethodName).desc).map (fun d => d.parameters.length) = some 0 := by decide +kernel
theorem xs_X12_lies : Cond.static ⟨"MirrorHeirsModel", "lies", "(III)Z"⟩ ∈ xTs := xt_7 155 rfl rfl
theorem xz_X12_lies : Cond.initialized "MirrorHeirsModel" ∈ xTs := xt_1 15 rfl rfl
theorem xe_X12_lies : Cond.code ⟨"MirrorHeirsModel", "lies", "(III)Z"⟩ prog_14_method_1_code 3 (some (.boolean)) ∈ xTs := xt_7 156 rfl rfl
theorem xp_X12_lies : (⟨"MirrorHeirsModel", "lies", "(III)Z"⟩ : MethodName).cls ≠ "java/lang/invoke/MethodHandle" ∧ (⟨"MirrorHeirsModel", "lies", "(III)Z"⟩ : MethodName).cls ≠ "java/lang/invoke/VarHandle" ∧ (parseMethodDescriptor (⟨"MirrorHeirsModel", "lies", "(III)Z"⟩ : MethodName).desc).map (fun d => d.parameters.length) = some 3 := by decide +kernel
theorem xs_X12_lights : Cond.instanceMethod ⟨"MirrorHeirsModel", "lights", "()V"⟩ ∈ xTs := xt_9 5 rfl rfl
theorem xq_X12_lights : Cond.selects "MirrorHeirsModel" ⟨"MirrorHeirsModel", "lights", "()V"⟩ ⟨"MirrorHeirsModel", "lights", "()V"⟩ ∈ xTs := xp7 9 rfl
theorem xz_X12_lights : Cond.initialized "MirrorHeirsModel" ∈ xTs := xt_1 15 rfl rfl
theorem xe_X12_lights : Cond.code ⟨"MirrorHeirsModel", "lights", "()V"⟩ prog_14_method_88_code 3 none ∈ xTs := xt_9 6 rfl rfl
theorem xp_X12_lights : (⟨"MirrorHeirsModel", "lights", "()V"⟩ : MethodName).cls ≠ "java/lang/invoke/MethodHandle" ∧ (⟨"MirrorHeirsModel", "lights", "()V"⟩ : MethodName).cls ≠ "java/lang/invoke/VarHandle" ∧ (parseMethodDescriptor (⟨"MirrorHeirsModel", "lights", "()V"⟩ : MethodName).desc).map (fun d => d.parameters.length) = some 0 := by decide +kernel
theorem xs_X12_lit : Cond.instanceMethod ⟨"MirrorHeirsModel", "lit", "(I)I"⟩ ∈ xTs := xt_9 35 rfl rfl
theorem xq_X12_lit : Cond.selects "MirrorHeirsModel" ⟨"MirrorHeirsModel", "lit", "(I)I"⟩ ⟨"MirrorHeirsModel", "lit", "(I)I"⟩ ∈ xTs := xt_9 36 rfl rfl
theorem xz_X12_lit : Cond.initialized "MirrorHeirsModel" ∈ xTs := xt_1 15 rfl rfl
theorem xe_X12_lit : Cond.code ⟨"MirrorHeirsModel", "lit", "(I)I"⟩ prog_14_method_98_code 3 (some (.int)) ∈ xTs := xt_9 37 rfl rfl
theorem xp_X12_lit : (⟨"MirrorHeirsModel", "lit", "(I)I"⟩ : MethodName).cls ≠ "java/lang/invoke/MethodHandle" ∧ (⟨"MirrorHeirsModel", "lit", "(I)I"⟩ : MethodName).cls ≠ "java/lang/invoke/VarHandle" ∧ (parseMethodDescriptor (⟨"MirrorHeirsModel", "lit", "(I)I"⟩ : MethodName).desc).map (fun d => d.parameters.length) = some 1 := by decide +kernel
theorem xs_X12_looks : Cond.instanceMethod ⟨"MirrorHeirsModel", "looks", "()V"⟩ ∈ xTs := xt_9 1 rfl rfl
theorem xq_X12_looks : Cond.selects "MirrorHeirsModel" ⟨"MirrorHeirsModel", "looks", "()V"⟩ ⟨"MirrorHeirsModel", "looks", "()V"⟩ ∈ xTs := xp7 8 rfl
theorem xz_X12_looks : Cond.initialized "MirrorHeirsModel" ∈ xTs := xt_1 15 rfl rfl
theorem xe_X12_looks : Cond.code ⟨"MirrorHeirsModel", "looks", "()V"⟩ prog_14_method_90_code 4 none ∈ xTs := xt_9 2 rfl rfl
theorem xp_X12_looks : (⟨"MirrorHeirsModel", "looks", "()V"⟩ : MethodName).cls ≠ "java/lang/invoke/MethodHandle" ∧ (⟨"MirrorHeirsModel", "looks", "()V"⟩ : MethodName).cls ≠ "java/lang/invoke/VarHandle" ∧ (parseMethodDescriptor (⟨"MirrorHeirsModel", "looks", "()V"⟩ : MethodName).desc).map (fun d => d.parameters.length) = some 0 := by decide +kernel
theorem xs_X12_looksFrom : Cond.instanceMethod ⟨"MirrorHeirsModel", "looksFrom", "(I)V"⟩ ∈ xTs := xt_8 221 rfl rfl
theorem xq_X12_looksFrom : Cond.selects "MirrorHeirsModel" ⟨"MirrorHeirsModel", "looksFrom", "(I)V"⟩ ⟨"MirrorHeirsModel", "looksFrom", "(I)V"⟩ ∈ xTs := xp7 5 rfl
theorem xz_X12_looksFrom : Cond.initialized "MirrorHeirsModel" ∈ xTs := xt_1 15 rfl rfl
theorem xe_X12_looksFrom : Cond.code ⟨"MirrorHeirsModel", "looksFrom", "(I)V"⟩ prog_14_method_82_code 4 none ∈ xTs := xt_8 222 rfl rfl
theorem xp_X12_looksFrom : (⟨"MirrorHeirsModel", "looksFrom", "(I)V"⟩ : MethodName).cls ≠ "java/lang/invoke/MethodHandle" ∧ (⟨"MirrorHeirsModel", "looksFrom", "(I)V"⟩ : MethodName).cls ≠ "java/lang/invoke/VarHandle" ∧ (parseMethodDescriptor (⟨"MirrorHeirsModel", "looksFrom", "(I)V"⟩ : MethodName).desc).map (fun d => d.parameters.length) = some 1 := by decide +kernel
theorem xs_X12_mayBe : Cond.instanceMethod ⟨"MirrorHeirsModel", "mayBe", "(II)Z"⟩ ∈ xTs := xt_7 178 rfl rfl
theorem xq_X12_mayBe : Cond.selects "MirrorHeirsModel" ⟨"MirrorHeirsModel", "mayBe", "(II)Z"⟩ ⟨"MirrorHeirsModel", "mayBe", "(II)Z"⟩ ∈ xTs := xp4 8 rfl
theorem xz_X12_mayBe : Cond.initialized "MirrorHeirsModel" ∈ xTs := xt_1 15 rfl rfl
theorem xe_X12_mayBe : Cond.code ⟨"MirrorHeirsModel", "mayBe", "(II)Z"⟩ prog_14_method_18_code 3 (some (.boolean)) ∈ xTs := xt_7 179 rfl rfl
theorem xp_X12_mayBe : (⟨"MirrorHeirsModel", "mayBe", "(II)Z"⟩ : MethodName).cls ≠ "java/lang/invoke/MethodHandle" ∧ (⟨"MirrorHeirsModel", "mayBe", "(II)Z"⟩ : MethodName).cls ≠ "java/lang/invoke/VarHandle" ∧ (parseMethodDescriptor (⟨"MirrorHeirsModel", "mayBe", "(II)Z"⟩ : MethodName).desc).map (fun d => d.parameters.length) = some 2 := by decide +kernel
theorem xs_X12_move : Cond.instanceMethod ⟨"MirrorHeirsModel", "move", "(II)I"⟩ ∈ xTs := xt_8 3 rfl rfl
theorem xq_X12_move : Cond.selects "MirrorHeirsModel" ⟨"MirrorHeirsModel", "move", "(II)I"⟩ ⟨"MirrorHeirsModel", "move", "(II)I"⟩ ∈ xTs := xt_8 4 rfl rfl
theorem xz_X12_move : Cond.initialized "MirrorHeirsModel" ∈ xTs := xt_1 15 rfl rfl
theorem xe_X12_move : Cond.code ⟨"MirrorHeirsModel", "move", "(II)I"⟩ prog_14_method_28_code 4 (some (.int)) ∈ xTs := xt_8 5 rfl rfl
theorem xp_X12_move : (⟨"MirrorHeirsModel", "move", "(II)I"⟩ : MethodName).cls ≠ "java/lang/invoke/MethodHandle" ∧ (⟨"MirrorHeirsModel", "move", "(II)I"⟩ : MethodName).cls ≠ "java/lang/invoke/VarHandle" ∧ (parseMethodDescriptor (⟨"MirrorHeirsModel", "move", "(II)I"⟩ : MethodName).desc).map (fun d => d.parameters.length) = some 2 := by decide +kernel
theorem xs_X12_movesKept : Cond.instanceMethod ⟨"MirrorHeirsModel", "movesKept", "(II)V"⟩ ∈ xTs := xt_8 12 rfl rfl
theorem xq_X12_movesKept : Cond.selects "MirrorHeirsModel" ⟨"MirrorHeirsModel", "movesKept", "(II)V"⟩ ⟨"MirrorHeirsModel", "movesKept", "(II)V"⟩ ∈ xTs := xp5 3 rfl
theorem xz_X12_movesKept : Cond.initialized "MirrorHeirsModel" ∈ xTs := xt_1 15 rfl rfl
theorem xe_X12_movesKept : Cond.code ⟨"MirrorHeirsModel", "movesKept", "(II)V"⟩ prog_14_method_31_code 3 none ∈ xTs := xt_8 13 rfl rfl
theorem xp_X12_movesKept : (⟨"MirrorHeirsModel", "movesKept", "(II)V"⟩ : MethodName).cls ≠ "java/lang/invoke/MethodHandle" ∧ (⟨"MirrorHeirsModel", "movesKept", "(II)V"⟩ : MethodName).cls ≠ "java/lang/invoke/VarHandle" ∧ (parseMethodDescriptor (⟨"MirrorHeirsModel", "movesKept", "(II)V"⟩ : MethodName).desc).map (fun d => d.parameters.length) = some 2 := by decide +kernel
theorem xs_X12_must : Cond.instanceMethod ⟨"MirrorHeirsModel", "must", "(I)V"⟩ ∈ xTs := xt_8 110 rfl rfl
theorem xq_X12_must : Cond.selects "MirrorHeirsModel" ⟨"MirrorHeirsModel", "must", "(I)V"⟩ ⟨"MirrorHeirsModel", "must", "(I)V"⟩ ∈ xTs := xp6 0 rfl
theorem xz_X12_must : Cond.initialized "MirrorHeirsModel" ∈ xTs := xt_1 15 rfl rfl
theorem xe_X12_must : Cond.code ⟨"MirrorHeirsModel", "must", "(I)V"⟩ prog_14_method_47_code 2 none ∈ xTs := xt_8 111 rfl rfl
theorem xp_X12_must : (⟨"MirrorHeirsModel", "must", "(I)V"⟩ : MethodName).cls ≠ "java/lang/invoke/MethodHandle" ∧ (⟨"MirrorHeirsModel", "must", "(I)V"⟩ : MethodName).cls ≠ "java/lang/invoke/VarHandle" ∧ (parseMethodDescriptor (⟨"MirrorHeirsModel", "must", "(I)V"⟩ : MethodName).desc).map (fun d => d.parameters.length) = some 1 := by decide +kernel
theorem xs_X12_mustNumber : Cond.instanceMethod ⟨"MirrorHeirsModel", "mustNumber", "(II)V"⟩ ∈ xTs := xt_8 118 rfl rfl
theorem xq_X12_mustNumber : Cond.selects "MirrorHeirsModel" ⟨"MirrorHeirsModel", "mustNumber", "(II)V"⟩ ⟨"MirrorHeirsModel", "mustNumber", "(II)V"⟩ ∈ xTs := xp6 2 rfl
theorem xz_X12_mustNumber : Cond.initialized "MirrorHeirsModel" ∈ xTs := xt_1 15 rfl rfl
theorem xe_X12_mustNumber : Cond.code ⟨"MirrorHeirsModel", "mustNumber", "(II)V"⟩ prog_14_method_50_code 3 none ∈ xTs := xt_8 119 rfl rfl
theorem xp_X12_mustNumber : (⟨"MirrorHeirsModel", "mustNumber", "(II)V"⟩ : MethodName).cls ≠ "java/lang/invoke/MethodHandle" ∧ (⟨"MirrorHeirsModel", "mustNumber", "(II)V"⟩ : MethodName).cls ≠ "java/lang/invoke/VarHandle" ∧ (parseMethodDescriptor (⟨"MirrorHeirsModel", "mustNumber", "(II)V"⟩ : MethodName).desc).map (fun d => d.parameters.length) = some 2 := by decide +kernel
theorem xs_X12_of : Cond.instanceMethod ⟨"MirrorHeirsModel", "of", "(II)I"⟩ ∈ xTs := xt_7 212 rfl rfl
theorem xq_X12_of : Cond.selects "MirrorHeirsModel" ⟨"MirrorHeirsModel", "of", "(II)I"⟩ ⟨"MirrorHeirsModel", "of", "(II)I"⟩ ∈ xTs := xt_7 213 rfl rfl
theorem xz_X12_of : Cond.initialized "MirrorHeirsModel" ∈ xTs := xt_1 15 rfl rfl
theorem xe_X12_of : Cond.code ⟨"MirrorHeirsModel", "of", "(II)I"⟩ prog_14_method_23_code 3 (some (.int)) ∈ xTs := xt_7 214 rfl rfl
theorem xp_X12_of : (⟨"MirrorHeirsModel", "of", "(II)I"⟩ : MethodName).cls ≠ "java/lang/invoke/MethodHandle" ∧ (⟨"MirrorHeirsModel", "of", "(II)I"⟩ : MethodName).cls ≠ "java/lang/invoke/VarHandle" ∧ (parseMethodDescriptor (⟨"MirrorHeirsModel", "of", "(II)I"⟩ : MethodName).desc).map (fun d => d.parameters.length) = some 2 := by decide +kernel
theorem xs_X12_ones : Cond.static ⟨"MirrorHeirsModel", "ones", "(I)I"⟩ ∈ xTs := xt_9 70 rfl rfl
theorem xz_X12_ones : Cond.initialized "MirrorHeirsModel" ∈ xTs := xt_1 15 rfl rfl
theorem xe_X12_ones : Cond.code ⟨"MirrorHeirsModel", "ones", "(I)I"⟩ prog_14_method_5_code 3 (some (.int)) ∈ xTs := xt_9 71 rfl rfl
theorem xp_X12_ones : (⟨"MirrorHeirsModel", "ones", "(I)I"⟩ : MethodName).cls ≠ "java/lang/invoke/MethodHandle" ∧ (⟨"MirrorHeirsModel", "ones", "(I)I"⟩ : MethodName).cls ≠ "java/lang/invoke/VarHandle" ∧ (parseMethodDescriptor (⟨"MirrorHeirsModel", "ones", "(I)I"⟩ : MethodName).desc).map (fun d => d.parameters.length) = some 1 := by decide +kernel
theorem xs_X12_orders : Cond.instanceMethod ⟨"MirrorHeirsModel", "orders", "()I"⟩ ∈ xTs := xt_9 121 rfl rfl
theorem xq_X12_orders : Cond.selects "MirrorHeirsModel" ⟨"MirrorHeirsModel", "orders", "()I"⟩ ⟨"MirrorHeirsModel", "orders", "()I"⟩ ∈ xTs := xt_9 122 rfl rfl
theorem xz_X12_orders : Cond.initialized "MirrorHeirsModel" ∈ xTs := xt_1 15 rfl rfl
theorem xe_X12_orders : Cond.code ⟨"MirrorHeirsModel", "orders", "()I"⟩ prog_14_method_117_code 5 (some (.int)) ∈ xTs := xt_9 123 rfl rfl
theorem xp_X12_orders : (⟨"MirrorHeirsModel", "orders", "()I"⟩ : MethodName).cls ≠ "java/lang/invoke/MethodHandle" ∧ (⟨"MirrorHeirsModel", "orders", "()I"⟩ : MethodName).cls ≠ "java/lang/invoke/VarHandle" ∧ (parseMethodDescriptor (⟨"MirrorHeirsModel", "orders", "()I"⟩ : MethodName).desc).map (fun d => d.parameters.length) = some 0 := by decide +kernel
theorem xs_X12_owner : Cond.instanceMethod ⟨"MirrorHeirsModel", "owner", "(II)I"⟩ ∈ xTs := xt_9 27 rfl rfl
theorem xq_X12_owner : Cond.selects "MirrorHeirsModel" ⟨"MirrorHeirsModel", "owner", "(II)I"⟩ ⟨"MirrorHeirsModel", "owner", "(II)I"⟩ ∈ xTs := xt_9 28 rfl rfl
theorem xz_X12_owner : Cond.initialized "MirrorHeirsModel" ∈ xTs := xt_1 15 rfl rfl
theorem xe_X12_owner : Cond.code ⟨"MirrorHeirsModel", "owner", "(II)I"⟩ prog_14_method_95_code 6 (some (.int)) ∈ xTs := xt_9 29 rfl rfl
theorem xp_X12_owner : (⟨"MirrorHeirsModel", "owner", "(II)I"⟩ : MethodName).cls ≠ "java/lang/invoke/MethodHandle" ∧ (⟨"MirrorHeirsModel", "owner", "(II)I"⟩ : MethodName).cls ≠ "java/lang/invoke/VarHandle" ∧ (parseMethodDescriptor (⟨"MirrorHeirsModel", "owner", "(II)I"⟩ : MethodName).desc).map (fun d => d.parameters.length) = some 2 := by decide +kernel
theorem xs_X12_pair : Cond.instanceMethod ⟨"MirrorHeirsModel", "pair", "(II)I"⟩ ∈ xTs := xt_8 236 rfl rfl
theorem xq_X12_pair : Cond.selects "MirrorHeirsModel" ⟨"MirrorHeirsModel", "pair", "(II)I"⟩ ⟨"MirrorHeirsModel", "pair", "(II)I"⟩ ∈ xTs := xt_8 237 rfl rfl
theorem xz_X12_pair : Cond.initialized "MirrorHeirsModel" ∈ xTs := xt_1 15 rfl rfl
theorem xe_X12_pair : Cond.code ⟨"MirrorHeirsModel", "pair", "(II)I"⟩ prog_14_method_92_code 3 (some (.int)) ∈ xTs := xt_8 238 rfl rfl
theorem xp_X12_pair : (⟨"MirrorHeirsModel", "pair", "(II)I"⟩ : MethodName).cls ≠ "java/lang/invoke/MethodHandle" ∧ (⟨"MirrorHeirsModel", "pair", "(II)I"⟩ : MethodName).cls ≠ "java/lang/invoke/VarHandle" ∧ (parseMethodDescriptor (⟨"MirrorHeirsModel", "pair", "(II)I"⟩ : MethodName).desc).map (fun d => d.parameters.length) = some 2 := by decide +kernel
theorem xs_X12_passes0 : Cond.instanceMethod ⟨"MirrorHeirsModel", "passes0", "(I)Z"⟩ ∈ xTs := xt_8 178 rfl rfl
theorem xq_X12_passes0 : Cond.selects "MirrorHeirsModel" ⟨"MirrorHeirsModel", "passes0", "(I)Z"⟩ ⟨"MirrorHeirsModel", "passes0", "(I)Z"⟩ ∈ xTs := xp6 14 rfl
theorem xz_X12_passes0 : Cond.initialized "MirrorHeirsModel" ∈ xTs := xt_1 15 rfl rfl
theorem xe_X12_passes0 : Cond.code ⟨"MirrorHeirsModel", "passes0", "(I)Z"⟩ prog_14_method_67_code 3 (some (.boolean)) ∈ xTs := xt_8 179 rfl rfl
theorem xp_X12_passes0 : (⟨"MirrorHeirsModel", "passes0", "(I)Z"⟩ : MethodName).cls ≠ "java/lang/invoke/MethodHandle" ∧ (⟨"MirrorHeirsModel", "passes0", "(I)Z"⟩ : MethodName).cls ≠ "java/lang/invoke/VarHandle" ∧ (parseMethodDescriptor (⟨"MirrorHeirsModel", "passes0", "(I)Z"⟩ : MethodName).desc).map (fun d => d.parameters.length) = some 1 := by decide +kernel
theorem xs_X12_peace : Cond.instanceMethod ⟨"MirrorHeirsModel", "peace", "(I)I"⟩ ∈ xTs := xt_9 101 rfl rfl
theorem xq_X12_peace : Cond.selects "MirrorHeirsModel" ⟨"MirrorHeirsModel", "peace", "(I)I"⟩ ⟨"MirrorHeirsModel", "peace", "(I)I"⟩ ∈ xTs := xt_9 102 rfl rfl
theorem xz_X12_peace : Cond.initialized "MirrorHeirsModel" ∈ xTs := xt_1 15 rfl rfl
theorem xe_X12_peace : Cond.code ⟨"MirrorHeirsModel", "peace", "(I)I"⟩ prog_14_method_114_code 7 (some (.int)) ∈ xTs := xt_9 103 rfl rfl
theorem xp_X12_peace : (⟨"MirrorHeirsModel", "peace", "(I)I"⟩ : MethodName).cls ≠ "java/lang/invoke/MethodHandle" ∧ (⟨"MirrorHeirsModel", "peace", "(I)I"⟩ : MethodName).cls ≠ "java/lang/invoke/VarHandle" ∧ (parseMethodDescriptor (⟨"MirrorHeirsModel", "peace", "(I)I"⟩ : MethodName).desc).map (fun d => d.parameters.length) = some 1 := by decide +kernel
theorem xs_X12_pivot : Cond.instanceMethod ⟨"MirrorHeirsModel", "pivot", "(III)I"⟩ ∈ xTs := xt_7 205 rfl rfl
theorem xq_X12_pivot : Cond.selects "MirrorHeirsModel" ⟨"MirrorHeirsModel", "pivot", "(III)I"⟩ ⟨"MirrorHeirsModel", "pivot", "(III)I"⟩ ∈ xTs := xt_7 206 rfl rfl
theorem xz_X12_pivot : Cond.initialized "MirrorHeirsModel" ∈ xTs := xt_1 15 rfl rfl
theorem xe_X12_pivot : Cond.code ⟨"MirrorHeirsModel", "pivot", "(III)I"⟩ prog_14_method_22_code 5 (some (.int)) ∈ xTs := xt_7 207 rfl rfl
theorem xp_X12_pivot : (⟨"MirrorHeirsModel", "pivot", "(III)I"⟩ : MethodName).cls ≠ "java/lang/invoke/MethodHandle" ∧ (⟨"MirrorHeirsModel", "pivot", "(III)I"⟩ : MethodName).cls ≠ "java/lang/invoke/VarHandle" ∧ (parseMethodDescriptor (⟨"MirrorHeirsModel", "pivot", "(III)I"⟩ : MethodName).desc).map (fun d => d.parameters.length) = some 3 := by decide +kernel
theorem xs_X12_pivotAt : Cond.instanceMethod ⟨"MirrorHeirsModel", "pivotAt", "(I)I"⟩ ∈ xTs := xt_7 194 rfl rfl
theorem xq_X12_pivotAt : Cond.selects "MirrorHeirsModel" ⟨"MirrorHeirsModel", "pivotAt", "(I)I"⟩ ⟨"MirrorHeirsModel", "pivotAt", "(I)I"⟩ ∈ xTs := xp4 12 rfl
theorem xz_X12_pivotAt : Cond.initialized "MirrorHeirsModel" ∈ xTs := xt_1 15 rfl rfl
theorem xe_X12_pivotAt : Cond.code ⟨"MirrorHeirsModel", "pivotAt", "(I)I"⟩ prog_14_method_14_code 2 (some (.int)) ∈ xTs := xt_7 195 rfl rfl
theorem xp_X12_pivotAt : (⟨"MirrorHeirsModel", "pivotAt", "(I)I"⟩ : MethodName).cls ≠ "java/lang/invoke/MethodHandle" ∧ (⟨"MirrorHeirsModel", "pivotAt", "(I)I"⟩ : MethodName).cls ≠ "java/lang/invoke/VarHandle" ∧ (parseMethodDescriptor (⟨"MirrorHeirsModel", "pivotAt", "(I)I"⟩ : MethodName).desc).map (fun d => d.parameters.length) = some 1 := by decide +kernel
theorem xs_X12_put : Cond.instanceMethod ⟨"MirrorHeirsModel", "put", "(II)I"⟩ ∈ xTs := xt_7 170 rfl rfl
theorem xq_X12_put : Cond.selects "MirrorHeirsModel" ⟨"MirrorHeirsModel", "put", "(II)I"⟩ ⟨"MirrorHeirsModel", "put", "(II)I"⟩ ∈ xTs := xt_7 171 rfl rfl
theorem xz_X12_put : Cond.initialized "MirrorHeirsModel" ∈ xTs := xt_1 15 rfl rfl
theorem xe_X12_put : Cond.code ⟨"MirrorHeirsModel", "put", "(II)I"⟩ prog_14_method_19_code 4 (some (.int)) ∈ xTs := xt_7 172 rfl rfl
theorem xp_X12_put : (⟨"MirrorHeirsModel", "put", "(II)I"⟩ : MethodName).cls ≠ "java/lang/invoke/MethodHandle" ∧ (⟨"MirrorHeirsModel", "put", "(II)I"⟩ : MethodName).cls ≠ "java/lang/invoke/VarHandle" ∧ (parseMethodDescriptor (⟨"MirrorHeirsModel", "put", "(II)I"⟩ : MethodName).desc).map (fun d => d.parameters.length) = some 2 := by decide +kernel
theorem xs_X12_quarrel : Cond.instanceMethod ⟨"MirrorHeirsModel", "quarrel", "(I)I"⟩ ∈ xTs := xt_9 113 rfl rfl
theorem xq_X12_quarrel : Cond.selects "MirrorHeirsModel" ⟨"MirrorHeirsModel", "quarrel", "(I)I"⟩ ⟨"MirrorHeirsModel", "quarrel", "(I)I"⟩ ∈ xTs := xt_9 114 rfl rfl
theorem xz_X12_quarrel : Cond.initialized "MirrorHeirsModel" ∈ xTs := xt_1 15 rfl rfl
theorem xe_X12_quarrel : Cond.code ⟨"MirrorHeirsModel", "quarrel", "(I)I"⟩ prog_14_method_115_code 9 (some (.int)) ∈ xTs := xt_9 115 rfl rfl
theorem xp_X12_quarrel : (⟨"MirrorHeirsModel", "quarrel", "(I)I"⟩ : MethodName).cls ≠ "java/lang/invoke/MethodHandle" ∧ (⟨"MirrorHeirsModel", "quarrel", "(I)I"⟩ : MethodName).cls ≠ "java/lang/invoke/VarHandle" ∧ (parseMethodDescriptor (⟨"MirrorHeirsModel", "quarrel", "(I)I"⟩ : MethodName).desc).map (fun d => d.parameters.length) = some 1 := by decide +kernel
theorem xs_X12_ray : Cond.instanceMethod ⟨"MirrorHeirsModel", "ray", "(III)I"⟩ ∈ xTs := xt_8 149 rfl rfl
theorem xq_X12_ray : Cond.selects "MirrorHeirsModel" ⟨"MirrorHeirsModel", "ray", "(III)I"⟩ ⟨"MirrorHeirsModel", "ray", "(III)I"⟩ ∈ xTs := xt_8 150 rfl rfl
theorem xz_X12_ray : Cond.initialized "MirrorHeirsModel" ∈ xTs := xt_1 15 rfl rfl
theorem xe_X12_ray : Cond.code ⟨"MirrorHeirsModel", "ray", "(III)I"⟩ prog_14_method_84_code 9 (some (.int)) ∈ xTs := xt_8 151 rfl rfl
theorem xp_X12_ray : (⟨"MirrorHeirsModel", "ray", "(III)I"⟩ : MethodName).cls ≠ "java/lang/invoke/MethodHandle" ∧ (⟨"MirrorHeirsModel", "ray", "(III)I"⟩ : MethodName).cls ≠ "java/lang/invoke/VarHandle" ∧ (parseMethodDescriptor (⟨"MirrorHeirsModel", "ray", "(III)I"⟩ : MethodName).desc).map (fun d => d.parameters.length) = some 3 := by decide +kernel
theorem xs_X12_readClause : Cond.instanceMethod ⟨"MirrorHeirsModel", "readClause", "()V"⟩ ∈ xTs := xt_8 134 rfl rfl
theorem xq_X12_readClause : Cond.selects "MirrorHeirsModel" ⟨"MirrorHeirsModel", "readClause", "()V"⟩ ⟨"MirrorHeirsModel", "readClause", "()V"⟩ ∈ xTs := xp6 6 rfl
theorem xz_X12_readClause : Cond.initialized "MirrorHeirsModel" ∈ xTs := xt_1 15 rfl rfl
theorem xe_X12_readClause : Cond.code ⟨"MirrorHeirsModel", "readClause", "()V"⟩ prog_14_method_51_code 1 none ∈ xTs := xt_8 135 rfl rfl
theorem xp_X12_readClause : (⟨"MirrorHeirsModel", "readClause", "()V"⟩ : MethodName).cls ≠ "java/lang/invoke/MethodHandle" ∧ (⟨"MirrorHeirsModel", "readClause", "()V"⟩ : MethodName).cls ≠ "java/lang/invoke/VarHandle" ∧ (parseMethodDescriptor (⟨"MirrorHeirsModel", "readClause", "()V"⟩ : MethodName).desc).map (fun d => d.parameters.length) = some 0 := by decide +kernel
theorem xs_X12_readOne : Cond.instanceMethod ⟨"MirrorHeirsModel", "readOne", "()V"⟩ ∈ xTs := xt_8 75 rfl rfl
theorem xq_X12_readOne : Cond.selects "MirrorHeirsModel" ⟨"MirrorHeirsModel", "readOne", "()V"⟩ ⟨"MirrorHeirsModel", "readOne", "()V"⟩ ∈ xTs := xp5 8 rfl
theorem xz_X12_readOne : Cond.initialized "MirrorHeirsModel" ∈ xTs := xt_1 15 rfl rfl
theorem xe_X12_readOne : Cond.code ⟨"MirrorHeirsModel", "readOne", "()V"⟩ prog_14_method_53_code 1 none ∈ xTs := xt_8 76 rfl rfl
theorem xp_X12_readOne : (⟨"MirrorHeirsModel", "readOne", "()V"⟩ : MethodName).cls ≠ "java/lang/invoke/MethodHandle" ∧ (⟨"MirrorHeirsModel", "readOne", "()V"⟩ : MethodName).cls ≠ "java/lang/invoke/VarHandle" ∧ (parseMethodDescriptor (⟨"MirrorHeirsModel", "readOne", "()V"⟩ : MethodName).desc).map (fun d => d.parameters.length) = some 0 := by decide +kernel
theorem xs_X12_readOrder : Cond.instanceMethod ⟨"MirrorHeirsModel", "readOrder", "()V"⟩ ∈ xTs := xt_8 79 rfl rfl
theorem xq_X12_readOrder : Cond.selects "MirrorHeirsModel" ⟨"MirrorHeirsModel", "readOrder", "()V"⟩ ⟨"MirrorHeirsModel", "readOrder", "()V"⟩ ∈ xTs := xp5 9 rfl
theorem xz_X12_readOrder : Cond.initialized "MirrorHeirsModel" ∈ xTs := xt_1 15 rfl rfl
theorem xe_X12_readOrder : Cond.code ⟨"MirrorHeirsModel", "readOrder", "()V"⟩ prog_14_method_52_code 1 none ∈ xTs := xt_8 80 rfl rfl
theorem xp_X12_readOrder : (⟨"MirrorHeirsModel", "readOrder", "()V"⟩ : MethodName).cls ≠ "java/lang/invoke/MethodHandle" ∧ (⟨"MirrorHeirsModel", "readOrder", "()V"⟩ : MethodName).cls ≠ "java/lang/invoke/VarHandle" ∧ (parseMethodDescriptor (⟨"MirrorHeirsModel", "readOrder", "()V"⟩ : MethodName).desc).map (fun d => d.parameters.length) = some 0 := by decide +kernel
theorem xs_X12_readSum : Cond.instanceMethod ⟨"MirrorHeirsModel", "readSum", "(I)V"⟩ ∈ xTs := xt_8 91 rfl rfl
theorem xq_X12_readSum : Cond.selects "MirrorHeirsModel" ⟨"MirrorHeirsModel", "readSum", "(I)V"⟩ ⟨"MirrorHeirsModel", "readSum", "(I)V"⟩ ∈ xTs := xp5 12 rfl
theorem xz_X12_readSum : Cond.initialized "MirrorHeirsModel" ∈ xTs := xt_1 15 rfl rfl
theorem xe_X12_readSum : Cond.code ⟨"MirrorHeirsModel", "readSum", "(I)V"⟩ prog_14_method_57_code 2 none ∈ xTs := xt_8 92 rfl rfl
theorem xp_X12_readSum : (⟨"MirrorHeirsModel", "readSum", "(I)V"⟩ : MethodName).cls ≠ "java/lang/invoke/MethodHandle" ∧ (⟨"MirrorHeirsModel", "readSum", "(I)V"⟩ : MethodName).cls ≠ "java/lang/invoke/VarHandle" ∧ (parseMethodDescriptor (⟨"MirrorHeirsModel", "readSum", "(I)V"⟩ : MethodName).desc).map (fun d => d.parameters.length) = some 1 := by decide +kernel
theorem xs_X12_readTest : Cond.instanceMethod ⟨"MirrorHeirsModel", "readTest", "(I)V"⟩ ∈ xTs := xt_8 122 rfl rfl
theorem xq_X12_readTest : Cond.selects "MirrorHeirsModel" ⟨"MirrorHeirsModel", "readTest", "(I)V"⟩ ⟨"MirrorHeirsModel", "readTest", "(I)V"⟩ ∈ xTs := xp6 3 rfl
theorem xz_X12_readTest : Cond.initialized "MirrorHeirsModel" ∈ xTs := xt_1 15 rfl rfl
theorem xe_X12_readTest : Cond.code ⟨"MirrorHeirsModel", "readTest", "(I)V"⟩ prog_14_method_54_code 2 none ∈ xTs := xt_8 123 rfl rfl
theorem xp_X12_readTest : (⟨"MirrorHeirsModel", "readTest", "(I)V"⟩ : MethodName).cls ≠ "java/lang/invoke/MethodHandle" ∧ (⟨"MirrorHeirsModel", "readTest", "(I)V"⟩ : MethodName).cls ≠ "java/lang/invoke/VarHandle" ∧ (parseMethodDescriptor (⟨"MirrorHeirsModel", "readTest", "(I)V"⟩ : MethodName).desc).map (fun d => d.parameters.length) = some 1 := by decide +kernel
theorem xs_X12_reads : Cond.instanceMethod ⟨"MirrorHeirsModel", "reads", "()Z"⟩ ∈ xTs := xt_8 56 rfl rfl
theorem xq_X12_reads : Cond.selects "MirrorHeirsModel" ⟨"MirrorHeirsModel", "reads", "()Z"⟩ ⟨"MirrorHeirsModel", "reads", "()Z"⟩ ∈ xTs := xp5 5 rfl
theorem xz_X12_reads : Cond.initialized "MirrorHeirsModel" ∈ xTs := xt_1 15 rfl rfl
theorem xe_X12_reads : Cond.code ⟨"MirrorHeirsModel", "reads", "()Z"⟩ prog_14_method_60_code 2 (some (.boolean)) ∈ xTs := xt_8 57 rfl rfl
theorem xp_X12_reads : (⟨"MirrorHeirsModel", "reads", "()Z"⟩ : MethodName).cls ≠ "java/lang/invoke/MethodHandle" ∧ (⟨"MirrorHeirsModel", "reads", "()Z"⟩ : MethodName).cls ≠ "java/lang/invoke/VarHandle" ∧ (parseMethodDescriptor (⟨"MirrorHeirsModel", "reads", "()Z"⟩ : MethodName).desc).map (fun d => d.parameters.length) = some 0 := by decide +kernel
theorem xs_X12_readsAs : Cond.instanceMethod ⟨"MirrorHeirsModel", "readsAs", "(Z)Z"⟩ ∈ xTs := xt_8 52 rfl rfl
theorem xq_X12_readsAs : Cond.selects "MirrorHeirsModel" ⟨"MirrorHeirsModel", "readsAs", "(Z)Z"⟩ ⟨"MirrorHeirsModel", "readsAs", "(Z)Z"⟩ ∈ xTs := xp5 4 rfl
theorem xz_X12_readsAs : Cond.initialized "MirrorHeirsModel" ∈ xTs := xt_1 15 rfl rfl
theorem xe_X12_readsAs : Cond.code ⟨"MirrorHeirsModel", "readsAs", "(Z)Z"⟩ prog_14_method_61_code 2 (some (.boolean)) ∈ xTs := xt_8 53 rfl rfl
theorem xp_X12_readsAs : (⟨"MirrorHeirsModel", "readsAs", "(Z)Z"⟩ : MethodName).cls ≠ "java/lang/invoke/MethodHandle" ∧ (⟨"MirrorHeirsModel", "readsAs", "(Z)Z"⟩ : MethodName).cls ≠ "java/lang/invoke/VarHandle" ∧ (parseMethodDescriptor (⟨"MirrorHeirsModel", "readsAs", "(Z)Z"⟩ : MethodName).desc).map (fun d => d.parameters.length) = some 1 := by decide +kernel
theorem xs_X12_refuses : Cond.instanceMethod ⟨"MirrorHeirsModel", "refuses", "(I)I"⟩ ∈ xTs := xt_7 159 rfl rfl
theorem xq_X12_refuses : Cond.selects "MirrorHeirsModel" ⟨"MirrorHeirsModel", "refuses", "(I)I"⟩ ⟨"MirrorHeirsModel", "refuses", "(I)I"⟩ ∈ xTs := xp4 6 rfl
theorem xz_X12_refuses : Cond.initialized "MirrorHeirsModel" ∈ xTs := xt_1 15 rfl rfl
theorem xe_X12_refuses : Cond.code ⟨"MirrorHeirsModel", "refuses", "(I)I"⟩ prog_14_method_2_code 2 (some (.int)) ∈ xTs := xt_7 160 rfl rfl
theorem xp_X12_refuses : (⟨"MirrorHeirsModel", "refuses", "(I)I"⟩ : MethodName).cls ≠ "java/lang/invoke/MethodHandle" ∧ (⟨"MirrorHeirsModel", "refuses", "(I)I"⟩ : MethodName).cls ≠ "java/lang/invoke/VarHandle" ∧ (parseMethodDescriptor (⟨"MirrorHeirsModel", "refuses", "(I)I"⟩ : MethodName).desc).map (fun d => d.parameters.length) = some 1 := by decide +kernel
theorem xs_X12_rentNow : Cond.instanceMethod ⟨"MirrorHeirsModel", "rentNow", "()I"⟩ ∈ xTs := xt_9 40 rfl rfl
theorem xq_X12_rentNow : Cond.selects "MirrorHeirsModel" ⟨"MirrorHeirsModel", "rentNow", "()I"⟩ ⟨"MirrorHeirsModel", "rentNow", "()I"⟩ ∈ xTs := xp7 13 rfl
theorem xz_X12_rentNow : Cond.initialized "MirrorHeirsModel" ∈ xTs := xt_1 15 rfl rfl
theorem xe_X12_rentNow : Cond.code ⟨"MirrorHeirsModel", "rentNow", "()I"⟩ prog_14_method_97_code 3 (some (.int)) ∈ xTs := xt_9 41 rfl rfl
theorem xp_X12_rentNow : (⟨"MirrorHeirsModel", "rentNow", "()I"⟩ : MethodName).cls ≠ "java/lang/invoke/MethodHandle" ∧ (⟨"MirrorHeirsModel", "rentNow", "()I"⟩ : MethodName).cls ≠ "java/lang/invoke/VarHandle" ∧ (parseMethodDescriptor (⟨"MirrorHeirsModel", "rentNow", "()I"⟩ : MethodName).desc).map (fun d => d.parameters.length) = some 0 := by decide +kernel
theorem xs_X12_reveal : Cond.instanceMethod ⟨"MirrorHeirsModel", "reveal", "(IIII)I"⟩ ∈ xTs := xt_9 85 rfl rfl
theorem xq_X12_reveal : Cond.selects "MirrorHeirsModel" ⟨"MirrorHeirsModel", "reveal", "(IIII)I"⟩ ⟨"MirrorHeirsModel", "reveal", "(IIII)I"⟩ ∈ xTs := xt_9 86 rfl rfl
theorem xz_X12_reveal : Cond.initialized "MirrorHeirsModel" ∈ xTs := xt_1 15 rfl rfl
theorem xe_X12_reveal : Cond.code ⟨"MirrorHeirsModel", "reveal", "(IIII)I"⟩ prog_14_method_109_code 11 (some (.int)) ∈ xTs := xt_9 87 rfl rfl
theorem xp_X12_reveal : (⟨"MirrorHeirsModel", "reveal", "(IIII)I"⟩ : MethodName).cls ≠ "java/lang/invoke/MethodHandle" ∧ (⟨"MirrorHeirsModel", "reveal", "(IIII)I"⟩ : MethodName).cls ≠ "java/lang/invoke/VarHandle" ∧ (parseMethodDescriptor (⟨"MirrorHeirsModel", "reveal", "(IIII)I"⟩ : MethodName).desc).map (fun d => d.parameters.length) = some 4 := by decide +kernel
theorem xs_X12_rises : Cond.static ⟨"MirrorHeirsModel", "rises", "(I)Z"⟩ ∈ xTs := xt_8 213 rfl rfl
theorem xz_X12_rises : Cond.initialized "MirrorHeirsModel" ∈ xTs := xt_1 15 rfl rfl
theorem xe_X12_rises : Cond.code ⟨"MirrorHeirsModel", "rises", "(I)Z"⟩ prog_14_method_79_code 1 (some (.boolean)) ∈ xTs := xt_8 214 rfl rfl
theorem xp_X12_rises : (⟨"MirrorHeirsModel", "rises", "(I)Z"⟩ : MethodName).cls ≠ "java/lang/invoke/MethodHandle" ∧ (⟨"MirrorHeirsModel", "rises", "(I)Z"⟩ : MethodName).cls ≠ "java/lang/invoke/VarHandle" ∧ (parseMethodDescriptor (⟨"MirrorHeirsModel", "rises", "(I)Z"⟩ : MethodName).desc).map (fun d => d.parameters.length) = some 1 := by decide +kernel
theorem xs_X12_row : Cond.instanceMethod ⟨"MirrorHeirsModel", "row", "()I"⟩ ∈ xTs := xt_8 31 rfl rfl
theorem xq_X12_row : Cond.selects "MirrorHeirsModel" ⟨"MirrorHeirsModel", "row", "()I"⟩ ⟨"MirrorHeirsModel", "row", "()I"⟩ ∈ xTs := xt_8 32 rfl rfl
theorem xz_X12_row : Cond.initialized "MirrorHeirsModel" ∈ xTs := xt_1 15 rfl rfl
theorem xe_X12_row : Cond.code ⟨"MirrorHeirsModel", "row", "()I"⟩ prog_14_method_36_code 5 (some (.int)) ∈ xTs := xt_8 33 rfl rfl
theorem xp_X12_row : (⟨"MirrorHeirsModel", "row", "()I"⟩ : MethodName).cls ≠ "java/lang/invoke/MethodHandle" ∧ (⟨"MirrorHeirsModel", "row", "()I"⟩ : MethodName).cls ≠ "java/lang/invoke/VarHandle" ∧ (parseMethodDescriptor (⟨"MirrorHeirsModel", "row", "()I"⟩ : MethodName).desc).map (fun d => d.parameters.length) = some 0 := by decide +kernel
theorem xs_X12_runs : Cond.instanceMethod ⟨"MirrorHeirsModel", "runs", "(I)Z"⟩ ∈ xTs := xt_9 126 rfl rfl
theorem xq_X12_runs : Cond.selects "MirrorHeirsModel" ⟨"MirrorHeirsModel", "runs", "(I)Z"⟩ ⟨"MirrorHeirsModel", "runs", "(I)Z"⟩ ∈ xTs := xp8 4 rfl
theorem xz_X12_runs : Cond.initialized "MirrorHeirsModel" ∈ xTs := xt_1 15 rfl rfl
theorem xe_X12_runs : Cond.code ⟨"MirrorHeirsModel", "runs", "(I)Z"⟩ prog_14_method_120_code 5 (some (.boolean)) ∈ xTs := xt_9 127 rfl rfl
theorem xp_X12_runs : (⟨"MirrorHeirsModel", "runs", "(I)Z"⟩ : MethodName).cls ≠ "java/lang/invoke/MethodHandle" ∧ (⟨"MirrorHeirsModel", "runs", "(I)Z"⟩ : MethodName).cls ≠ "java/lang/invoke/VarHandle" ∧ (parseMethodDescriptor (⟨"MirrorHeirsModel", "runs", "(I)Z"⟩ : MethodName).desc).map (fun d => d.parameters.length) = some 1 := by decide +kernel
theorem xs_X12_sign : Cond.static ⟨"MirrorHeirsModel", "sign", "(C)I"⟩ ∈ xTs := xt_8 102 rfl rfl
theorem xz_X12_sign : Cond.initialized "MirrorHeirsModel" ∈ xTs := xt_1 15 rfl rfl
theorem xe_X12_sign : Cond.code ⟨"MirrorHeirsModel", "sign", "(C)I"⟩ prog_14_method_49_code 1 (some (.int)) ∈ xTs := xt_8 103 rfl rfl
theorem xp_X12_sign : (⟨"MirrorHeirsModel", "sign", "(C)I"⟩ : MethodName).cls ≠ "java/lang/invoke/MethodHandle" ∧ (⟨"MirrorHeirsModel", "sign", "(C)I"⟩ : MethodName).cls ≠ "java/lang/invoke/VarHandle" ∧ (parseMethodDescriptor (⟨"MirrorHeirsModel", "sign", "(C)I"⟩ : MethodName).desc).map (fun d => d.parameters.length) = some 1 := by decide +kernel
theorem xs_X12_splits : Cond.instanceMethod ⟨"MirrorHeirsModel", "splits", "(I)V"⟩ ∈ xTs := xt_8 60 rfl rfl
theorem xq_X12_splits : Cond.selects "MirrorHeirsModel" ⟨"MirrorHeirsModel", "splits", "(I)V"⟩ ⟨"MirrorHeirsModel", "splits", "(I)V"⟩ ∈ xTs := xp5 6 rfl
theorem xz_X12_splits : Cond.initialized "MirrorHeirsModel" ∈ xTs := xt_1 15 rfl rfl
theorem xe_X12_splits : Cond.code ⟨"MirrorHeirsModel", "splits", "(I)V"⟩ prog_14_method_43_code 6 none ∈ xTs := xt_8 61 rfl rfl
theorem xp_X12_splits : (⟨"MirrorHeirsModel", "splits", "(I)V"⟩ : MethodName).cls ≠ "java/lang/invoke/MethodHandle" ∧ (⟨"MirrorHeirsModel", "splits", "(I)V"⟩ : MethodName).cls ≠ "java/lang/invoke/VarHandle" ∧ (parseMethodDescriptor (⟨"MirrorHeirsModel", "splits", "(I)V"⟩ : MethodName).desc).map (fun d => d.parameters.length) = some 1 := by decide +kernel
theorem xs_X12_stand : Cond.instanceMethod ⟨"MirrorHeirsModel", "stand", "(II)I"⟩ ∈ xTs := xt_9 43 rfl rfl
theorem xq_X12_stand : Cond.selects "MirrorHeirsModel" ⟨"MirrorHeirsModel", "stand", "(II)I"⟩ ⟨"MirrorHeirsModel", "stand", "(II)I"⟩ ∈ xTs := xt_9 44 rfl rfl
theorem xz_X12_stand : Cond.initialized "MirrorHeirsModel" ∈ xTs := xt_1 15 rfl rfl
theorem xe_X12_stand : Cond.code ⟨"MirrorHeirsModel", "stand", "(II)I"⟩ prog_14_method_99_code 4 (some (.int)) ∈ xTs := xt_9 45 rfl rfl
theorem xp_X12_stand : (⟨"MirrorHeirsModel", "stand", "(II)I"⟩ : MethodName).cls ≠ "java/lang/invoke/MethodHandle" ∧ (⟨"MirrorHeirsModel", "stand", "(II)I"⟩ : MethodName).cls ≠ "java/lang/invoke/VarHandle" ∧ (parseMethodDescriptor (⟨"MirrorHeirsModel", "stand", "(II)I"⟩ : MethodName).desc).map (fun d => d.parameters.length) = some 2 := by decide +kernel
theorem xs_X12_standsBy : Cond.instanceMethod ⟨"MirrorHeirsModel", "standsBy", "(I)I"⟩ ∈ xTs := xt_9 48 rfl rfl
theorem xq_X12_standsBy : Cond.selects "MirrorHeirsModel" ⟨"MirrorHeirsModel", "standsBy", "(I)I"⟩ ⟨"MirrorHeirsModel", "standsBy", "(I)I"⟩ ∈ xTs := xp7 14 rfl
theorem xz_X12_standsBy : Cond.initialized "MirrorHeirsModel" ∈ xTs := xt_1 15 rfl rfl
theorem xe_X12_standsBy : Cond.code ⟨"MirrorHeirsModel", "standsBy", "(I)I"⟩ prog_14_method_100_code 10 (some (.int)) ∈ xTs := xt_9 49 rfl rfl
theorem xp_X12_standsBy : (⟨"MirrorHeirsModel", "standsBy", "(I)I"⟩ : MethodName).cls ≠ "java/lang/invoke/MethodHandle" ∧ (⟨"MirrorHeirsModel", "standsBy", "(I)I"⟩ : MethodName).cls ≠ "java/lang/invoke/VarHandle" ∧ (parseMethodDescriptor (⟨"MirrorHeirsModel", "standsBy", "(I)I"⟩ : MethodName).desc).map (fun d => d.parameters.length) = some 1 := by decide +kernel
theorem xs_X12_status : Cond.instanceMethod ⟨"MirrorHeirsModel", "status", "()I"⟩ ∈ xTs := xt_9 163 rfl rfl
theorem xq_X12_status : Cond.selects "MirrorHeirsModel" ⟨"MirrorHeirsModel", "status", "()I"⟩ ⟨"MirrorHeirsModel", "status", "()I"⟩ ∈ xTs := xt_9 164 rfl rfl
theorem xz_X12_status : Cond.initialized "MirrorHeirsModel" ∈ xTs := xt_1 15 rfl rfl
theorem xe_X12_status : Cond.code ⟨"MirrorHeirsModel", "status", "()I"⟩ prog_14_method_127_code 1 (some (.int)) ∈ xTs := xt_9 165 rfl rfl
theorem xp_X12_status : (⟨"MirrorHeirsModel", "status", "()I"⟩ : MethodName).cls ≠ "java/lang/invoke/MethodHandle" ∧ (⟨"MirrorHeirsModel", "status", "()I"⟩ : MethodName).cls ≠ "java/lang/invoke/VarHandle" ∧ (parseMethodDescriptor (⟨"MirrorHeirsModel", "status", "()I"⟩ : MethodName).desc).map (fun d => d.parameters.length) = some 0 := by decide +kernel
theorem xs_X12_stopped : Cond.instanceMethod ⟨"MirrorHeirsModel", "stopped", "()I"⟩ ∈ xTs := xt_9 117 rfl rfl
theorem xq_X12_stopped : Cond.selects "MirrorHeirsModel" ⟨"MirrorHeirsModel", "stopped", "()I"⟩ ⟨"MirrorHeirsModel", "stopped", "()I"⟩ ∈ xTs := xt_9 118 rfl rfl
theorem xz_X12_stopped : Cond.initialized "MirrorHeirsModel" ∈ xTs := xt_1 15 rfl rfl
theorem xe_X12_stopped : Cond.code ⟨"MirrorHeirsModel", "stopped", "()I"⟩ prog_14_method_116_code 1 (some (.int)) ∈ xTs := xt_9 119 rfl rfl
theorem xp_X12_stopped : (⟨"MirrorHeirsModel", "stopped", "()I"⟩ : MethodName).cls ≠ "java/lang/invoke/MethodHandle" ∧ (⟨"MirrorHeirsModel", "stopped", "()I"⟩ : MethodName).cls ≠ "java/lang/invoke/VarHandle" ∧ (parseMethodDescriptor (⟨"MirrorHeirsModel", "stopped", "()I"⟩ : MethodName).desc).map (fun d => d.parameters.length) = some 0 := by decide +kernel
theorem xs_X12_stranger : Cond.instanceMethod ⟨"MirrorHeirsModel", "stranger", "(I)I"⟩ ∈ xTs := xt_9 77 rfl rfl
theorem xq_X12_stranger : Cond.selects "MirrorHeirsModel" ⟨"MirrorHeirsModel", "stranger", "(I)I"⟩ ⟨"MirrorHeirsModel", "stranger", "(I)I"⟩ ∈ xTs := xt_9 78 rfl rfl
theorem xz_X12_stranger : Cond.initialized "MirrorHeirsModel" ∈ xTs := xt_1 15 rfl rfl
theorem xe_X12_stranger : Cond.code ⟨"MirrorHeirsModel", "stranger", "(I)I"⟩ prog_14_method_106_code 6 (some (.int)) ∈ xTs := xt_9 79 rfl rfl
theorem xp_X12_stranger : (⟨"MirrorHeirsModel", "stranger", "(I)I"⟩ : MethodName).cls ≠ "java/lang/invoke/MethodHandle" ∧ (⟨"MirrorHeirsModel", "stranger", "(I)I"⟩ : MethodName).cls ≠ "java/lang/invoke/VarHandle" ∧ (parseMethodDescriptor (⟨"MirrorHeirsModel", "stranger", "(I)I"⟩ : MethodName).desc).map (fun d => d.parameters.length) = some 1 := by decide +kernel
theorem xs_X12_sumOf : Cond.instanceMethod ⟨"MirrorHeirsModel", "sumOf", "(Z)J"⟩ ∈ xTs := xt_8 166 rfl rfl
theorem xq_X12_sumOf : Cond.selects "MirrorHeirsModel" ⟨"MirrorHeirsModel", "sumOf", "(Z)J"⟩ ⟨"MirrorHeirsModel", "sumOf", "(Z)J"⟩ ∈ xTs := xp6 11 rfl
theorem xz_X12_sumOf : Cond.initialized "MirrorHeirsModel" ∈ xTs := xt_1 15 rfl rfl
