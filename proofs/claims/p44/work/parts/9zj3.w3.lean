theorem xq_X12_laysEstates : Cond.selects "MirrorHeirsModel" ⟨"MirrorHeirsModel", "laysEstates", "()V"⟩ ⟨"MirrorHeirsModel", "laysEstates", "()V"⟩ ∈ xTs := xp8 2 rfl
theorem xz_X12_laysEstates : Cond.initialized "MirrorHeirsModel" ∈ xTs := xt_1 15 rfl rfl
theorem xe_X12_laysEstates : Cond.code ⟨"MirrorHeirsModel", "laysEstates", "()V"⟩ prog_14_method_112_code 3 none ∈ xTs := xt_9 107 rfl rfl
theorem xp_X12_laysEstates : (⟨"MirrorHeirsModel", "laysEstates", "()V"⟩ : MethodName).cls ≠ "java/lang/invoke/MethodHandle" ∧ (⟨"MirrorHeirsModel", "laysEstates", "()V"⟩ : MethodName).cls ≠ "java/lang/invoke/VarHandle" ∧ (parseMethodDescriptor (⟨"MirrorHeirsModel", "laysEstates", "()V"⟩ : MethodName).desc).map (fun d => d.parameters.length) = some 0 := by decide +kernel
theorem xs_X12_laysFog : Cond.instanceMethod ⟨"MirrorHeirsModel", "laysFog", "()V"⟩ ∈ xTs := xt_8 154 rfl rfl
theorem xq_X12_laysFog : Cond.selects "MirrorHeirsModel" ⟨"MirrorHeirsModel", "laysFog", "()V"⟩ ⟨"MirrorHeirsModel", "laysFog", "()V"⟩ ∈ xTs := xp6 8 rfl
theorem xz_X12_laysFog : Cond.initialized "MirrorHeirsModel" ∈ xTs := xt_1 15 rfl rfl
theorem xe_X12_laysFog : Cond.code ⟨"MirrorHeirsModel", "laysFog", "()V"⟩ prog_14_method_77_code 4 none ∈ xTs := xt_8 155 rfl rfl
theorem xp_X12_laysFog : (⟨"MirrorHeirsModel", "laysFog", "()V"⟩ : MethodName).cls ≠ "java/lang/invoke/MethodHandle" ∧ (⟨"MirrorHeirsModel", "laysFog", "()V"⟩ : MethodName).cls ≠ "java/lang/invoke/VarHandle" ∧ (parseMethodDescriptor (⟨"MirrorHeirsModel", "laysFog", "()V"⟩ : MethodName).desc).map (fun d => d.parameters.length) = some 0 := by decide +kernel
theorem xs_X12_leaf : Cond.instanceMethod ⟨"MirrorHeirsModel", "leaf", "()V"⟩ ∈ xTs := xt_8 114 rfl rfl
theorem xq_X12_leaf : Cond.selects "MirrorHeirsModel" ⟨"MirrorHeirsModel", "leaf", "()V"⟩ ⟨"MirrorHeirsModel", "leaf", "()V"⟩ ∈ xTs := xp6 1 rfl
theorem xz_X12_leaf : Cond.initialized "MirrorHeirsModel" ∈ xTs := xt_1 15 rfl rfl
theorem xe_X12_leaf : Cond.code ⟨"MirrorHeirsModel", "leaf", "()V"⟩ prog_14_method_48_code 1 none ∈ xTs := xt_8 115 rfl rfl
theorem xp_X12_leaf : (⟨"MirrorHeirsModel", "leaf", "()V"⟩ : MethodName).cls ≠ "java/lang/invoke/MethodHandle" ∧ (⟨"MirrorHeirsModel", "leaf", "()V"⟩ : MethodName).cls ≠ "java/lang/invoke/VarHandle" ∧ (parseMethodDescriptor (⟨"MirrorHeirsModel", "leaf", "()V"⟩ : MethodName).desc).map (fun d => d.parameters.length) = some 0 := by decide +kernel
theorem xs_X12_lieIn : Cond.static ⟨"MirrorHeirsModel", "lieIn", "(JII)Z"⟩ ∈ xTs := xt_9 141 rfl rfl
theorem xz_X12_lieIn : Cond.initialized "MirrorHeirsModel" ∈ xTs := xt_1 15 rfl rfl
theorem xe_X12_lieIn : Cond.code ⟨"MirrorHeirsModel", "lieIn", "(JII)Z"⟩ prog_14_method_121_code 4 (some (.boolean)) ∈ xTs := xt_9 142 rfl rfl
theorem xp_X12_lieIn : (⟨"MirrorHeirsModel", "lieIn", "(JII)Z"⟩ : MethodName).cls ≠ "java/lang/invoke/MethodHandle" ∧ (⟨"MirrorHeirsModel", "lieIn", "(JII)Z"⟩ : MethodName).cls ≠ "java/lang/invoke/VarHandle" ∧ (parseMethodDescriptor (⟨"MirrorHeirsModel", "lieIn", "(JII)Z"⟩ : MethodName).desc).map (fun d => d.parameters.length) = some 3 := by decide +kernel
theorem xs_X12_lies : Cond.static ⟨"MirrorHeirsModel", "lies", "(III)Z"⟩ ∈ xTs := xt_7 155 rfl rfl
theorem xz_X12_lies : Cond.initialized "MirrorHeirsModel" ∈ xTs := xt_1 15 rfl rfl
theorem xe_X12_lies : Cond.code ⟨"MirrorHeirsModel", "lies", "(III)Z"⟩ prog_14_method_1_code 3 (some (.boolean)) ∈ xTs := xt_7 156 rfl rfl
theorem xp_X12_lies : (⟨"MirrorHeirsModel", "lies", "(III)Z"⟩ : MethodName).cls ≠ "java/lang/invoke/MethodHandle" ∧ (⟨"MirrorHeirsModel", "lies", "(III)Z"⟩ : MethodName).cls ≠ "java/lang/invoke/VarHandle" ∧ (parseMethodDescriptor (⟨"MirrorHeirsModel", "lies", "(III)Z"⟩ : MethodName).desc).map (fun d => d.parameters.length) = some 3 := by decide +kernel
theorem xs_X12_lights : Cond.instanceMethod ⟨"MirrorHeirsModel", "lights", "()V"⟩ ∈ xTs := xt_9 5 rfl rfl
theorem xq_X12_lights : Cond.selects "MirrorHeirsModel" ⟨"MirrorHeirsModel", "lights", "()V"⟩ ⟨"MirrorHeirsModel", "lights", "()V"⟩ ∈ xTs := xp7 9 rfl
theorem xz_X12_lights : Cond.initialized "MirrorHeirsModel" ∈ xTs := xt_1 15 rfl rfl
theorem xe_X12_lights : Cond.code ⟨"MirrorHeirsModel", "lights", "()V"⟩ prog_14_method_88_code 3 none ∈ xTs := xt_9 6 rfl rfl
theorem xp_X12_lights : (⟨"MirrorHeirsModel", "lights", "()V"⟩ : MethodName).cls ≠ "java/lang/invoke/MethodHandle" ∧ (⟨"MirrorHeirsModel", "lights", "()V"⟩ : MethodName).cls ≠ "java/lang/invoke/VarHandle" ∧ (parseMethodDescriptor (⟨"MirrorHeirsModel", "lights", "()V"⟩ : MethodName).desc).map (fun d => d.parameters.length) = some 0 := by decide +kernel
theorem xs_X12_lit : Cond.instanceMethod ⟨"MirrorHeirsModel", "lit", "(I)I"⟩ ∈ xTs := xt_9 35 rfl rfl
theorem xq_X12_lit : Cond.selects "MirrorHeirsModel" ⟨"MirrorHeirsModel", "lit", "(I)I"⟩ ⟨"MirrorHeirsModel", "lit", "(I)I"⟩ ∈ xTs := xt_9 36 rfl rfl
theorem xz_X12_lit : Cond.initialized "MirrorHeirsModel" ∈ xTs := xt_1 15 rfl rfl
theorem xe_X12_lit : Cond.code ⟨"MirrorHeirsModel", "lit", "(I)I"⟩ prog_14_method_98_code 3 (some (.int)) ∈ xTs := xt_9 37 rfl rfl
theorem xp_X12_lit : (⟨"MirrorHeirsModel", "lit", "(I)I"⟩ : MethodName).cls ≠ "java/lang/invoke/MethodHandle" ∧ (⟨"MirrorHeirsModel", "lit", "(I)I"⟩ : MethodName).cls ≠ "java/lang/invoke/VarHandle" ∧ (parseMethodDescriptor (⟨"MirrorHeirsModel", "lit", "(I)I"⟩ : MethodName).desc).map (fun d => d.parameters.length) = some 1 := by decide +kernel
theorem xs_X12_looks : Cond.instanceMethod ⟨"MirrorHeirsModel", "looks", "()V"⟩ ∈ xTs := xt_9 1 rfl rfl
theorem xq_X12_looks : Cond.selects "MirrorHeirsModel" ⟨"MirrorHeirsModel", "looks", "()V"⟩ ⟨"MirrorHeirsModel", "looks", "()V"⟩ ∈ xTs := xp7 8 rfl
theorem xz_X12_looks : Cond.initialized "MirrorHeirsModel" ∈ xTs := xt_1 15 rfl rfl
theorem xe_X12_looks : Cond.code ⟨"MirrorHeirsModel", "looks", "()V"⟩ prog_14_method_90_code 4 none ∈ xTs := xt_9 2 rfl rfl
theorem xp_X12_looks : (⟨"MirrorHeirsModel", "looks", "()V"⟩ : MethodName).cls ≠ "java/lang/invoke/MethodHandle" ∧ (⟨"MirrorHeirsModel", "looks", "()V"⟩ : MethodName).cls ≠ "java/lang/invoke/VarHandle" ∧ (parseMethodDescriptor (⟨"MirrorHeirsModel", "looks", "()V"⟩ : MethodName).desc).map (fun d => d.parameters.length) = some 0 := by decide +kernel
theorem xs_X12_looksFrom : Cond.instanceMethod ⟨"MirrorHeirsModel", "looksFrom", "(I)V"⟩ ∈ xTs := xt_8 221 rfl rfl
theorem xq_X12_looksFrom : Cond.selects "MirrorHeirsModel" ⟨"MirrorHeirsModel", "looksFrom", "(I)V"⟩ ⟨"MirrorHeirsModel", "looksFrom", "(I)V"⟩ ∈ xTs := xp7 5 rfl
theorem xz_X12_looksFrom : Cond.initialized "MirrorHeirsModel" ∈ xTs := xt_1 15 rfl rfl
theorem xe_X12_looksFrom : Cond.code ⟨"MirrorHeirsModel", "looksFrom", "(I)V"⟩ prog_14_method_82_code 4 none ∈ xTs := xt_8 222 rfl rfl
theorem xp_X12_looksFrom : (⟨"MirrorHeirsModel", "looksFrom", "(I)V"⟩ : MethodName).cls ≠ "java/lang/invoke/MethodHandle" ∧ (⟨"MirrorHeirsModel", "looksFrom", "(I)V"⟩ : MethodName).cls ≠ "java/lang/invoke/VarHandle" ∧ (parseMethodDescriptor (⟨"MirrorHeirsModel", "looksFrom", "(I)V"⟩ : MethodName).desc).map (fun d => d.parameters.length) = some 1 := by decide +kernel
theorem xs_X12_mayBe : Cond.instanceMethod ⟨"MirrorHeirsModel", "mayBe", "(II)Z"⟩ ∈ xTs := xt_7 178 rfl rfl
theorem xq_X12_mayBe : Cond.selects "MirrorHeirsModel" ⟨"MirrorHeirsModel", "mayBe", "(II)Z"⟩ ⟨"MirrorHeirsModel", "mayBe", "(II)Z"⟩ ∈ xTs := xp4 8 rfl
theorem xz_X12_mayBe : Cond.initialized "MirrorHeirsModel" ∈ xTs := xt_1 15 rfl rfl
theorem xe_X12_mayBe : Cond.code ⟨"MirrorHeirsModel", "mayBe", "(II)Z"⟩ prog_14_method_18_code 3 (some (.boolean)) ∈ xTs := xt_7 179 rfl rfl
theorem xp_X12_mayBe : (⟨"MirrorHeirsModel", "mayBe", "(II)Z"⟩ : MethodName).cls ≠ "java/lang/invoke/MethodHandle" ∧ (⟨"MirrorHeirsModel", "mayBe", "(II)Z"⟩ : MethodName).cls ≠ "java/lang/invoke/VarHandle" ∧ (parseMethodDescriptor (⟨"MirrorHeirsModel", "mayBe", "(II)Z"⟩ : MethodName).desc).map (fun d => d.parameters.length) = some 2 := by decide +kernel
theorem xs_X12_move : Cond.instanceMethod ⟨"MirrorHeirsModel", "move", "(II)I"⟩ ∈ xTs := xt_8 3 rfl rfl
theorem xq_X12_move : Cond.selects "MirrorHeirsModel" ⟨"MirrorHeirsModel", "move", "(II)I"⟩ ⟨"MirrorHeirsModel", "move", "(II)I"⟩ ∈ xTs := xt_8 4 rfl rfl
theorem xz_X12_move : Cond.initialized "MirrorHeirsModel" ∈ xTs := xt_1 15 rfl rfl
theorem xe_X12_move : Cond.code ⟨"MirrorHeirsModel", "move", "(II)I"⟩ prog_14_method_28_code 4 (some (.int)) ∈ xTs := xt_8 5 rfl rfl
theorem xp_X12_move : (⟨"MirrorHeirsModel", "move", "(II)I"⟩ : MethodName).cls ≠ "java/lang/invoke/MethodHandle" ∧ (⟨"MirrorHeirsModel", "move", "(II)I"⟩ : MethodName).cls ≠ "java/lang/invoke/VarHandle" ∧ (parseMethodDescriptor (⟨"MirrorHeirsModel", "move", "(II)I"⟩ : MethodName).desc).map (fun d => d.parameters.length) = some 2 := by decide +kernel
theorem xs_X12_movesKept : Cond.instanceMethod ⟨"MirrorHeirsModel", "movesKept", "(II)V"⟩ ∈ xTs := xt_8 12 rfl rfl
theorem xq_X12_movesKept : Cond.selects "MirrorHeirsModel" ⟨"MirrorHeirsModel", "movesKept", "(II)V"⟩ ⟨"MirrorHeirsModel", "movesKept", "(II)V"⟩ ∈ xTs := xp5 3 rfl
theorem xz_X12_movesKept : Cond.initialized "MirrorHeirsModel" ∈ xTs := xt_1 15 rfl rfl
theorem xe_X12_movesKept : Cond.code ⟨"MirrorHeirsModel", "movesKept", "(II)V"⟩ prog_14_method_31_code 3 none ∈ xTs := xt_8 13 rfl rfl
theorem xp_X12_movesKept : (⟨"MirrorHeirsModel", "movesKept", "(II)V"⟩ : MethodName).cls ≠ "java/lang/invoke/MethodHandle" ∧ (⟨"MirrorHeirsModel", "movesKept", "(II)V"⟩ : MethodName).cls ≠ "java/lang/invoke/VarHandle" ∧ (parseMethodDescriptor (⟨"MirrorHeirsModel", "movesKept", "(II)V"⟩ : MethodName).desc).map (fun d => d.parameters.length) = some 2 := by decide +kernel
theorem xs_X12_must : Cond.instanceMethod ⟨"MirrorHeirsModel", "must", "(I)V"⟩ ∈ xTs := xt_8 110 rfl rfl
theorem xq_X12_must : Cond.selects "MirrorHeirsModel" ⟨"MirrorHeirsModel", "must", "(I)V"⟩ ⟨"MirrorHeirsModel", "must", "(I)V"⟩ ∈ xTs := xp6 0 rfl
theorem xz_X12_must : Cond.initialized "MirrorHeirsModel" ∈ xTs := xt_1 15 rfl rfl
theorem xe_X12_must : Cond.code ⟨"MirrorHeirsModel", "must", "(I)V"⟩ prog_14_method_47_code 2 none ∈ xTs := xt_8 111 rfl rfl
theorem xp_X12_must : (⟨"MirrorHeirsModel", "must", "(I)V"⟩ : MethodName).cls ≠ "java/lang/invoke/MethodHandle" ∧ (⟨"MirrorHeirsModel", "must", "(I)V"⟩ : MethodName).cls ≠ "java/lang/invoke/VarHandle" ∧ (parseMethodDescriptor (⟨"MirrorHeirsModel", "must", "(I)V"⟩ : MethodName).desc).map (fun d => d.parameters.length) = some 1 := by decide +kernel
theorem xs_X12_mustNumber : Cond.instanceMethod ⟨"MirrorHeirsModel", "mustNumber", "(II)V"⟩ ∈ xTs := xt_8 118 rfl rfl
theorem xq_X12_mustNumber : Cond.selects "MirrorHeirsModel" ⟨"MirrorHeirsModel", "mustNumber", "(II)V"⟩ ⟨"MirrorHeirsModel", "mustNumber", "(II)V"⟩ ∈ xTs := xp6 2 rfl
theorem xz_X12_mustNumber : Cond.initialized "MirrorHeirsModel" ∈ xTs := xt_1 15 rfl rfl
theorem xe_X12_mustNumber : Cond.code ⟨"MirrorHeirsModel", "mustNumber", "(II)V"⟩ prog_14_method_50_code 3 none ∈ xTs := xt_8 119 rfl rfl
theorem xp_X12_mustNumber : (⟨"MirrorHeirsModel", "mustNumber", "(II)V"⟩ : MethodName).cls ≠ "java/lang/invoke/MethodHandle" ∧ (⟨"MirrorHeirsModel", "mustNumber", "(II)V"⟩ : MethodName).cls ≠ "java/lang/invoke/VarHandle" ∧ (parseMethodDescriptor (⟨"MirrorHeirsModel", "mustNumber", "(II)V"⟩ : MethodName).desc).map (fun d => d.parameters.length) = some 2 := by decide +kernel
theorem xs_X12_obeys : Cond.instanceMethod ⟨"MirrorHeirsModel", "obeys", "()Z"⟩ ∈ xTs := xt_9 138 rfl rfl
theorem xq_X12_obeys : Cond.selects "MirrorHeirsModel" ⟨"MirrorHeirsModel", "obeys", "()Z"⟩ ⟨"MirrorHeirsModel", "obeys", "()Z"⟩ ∈ xTs := xp8 7 rfl
theorem xz_X12_obeys : Cond.initialized "MirrorHeirsModel" ∈ xTs := xt_1 15 rfl rfl
theorem xe_X12_obeys : Cond.code ⟨"MirrorHeirsModel", "obeys", "()Z"⟩ prog_14_method_122_code 1 (some (.boolean)) ∈ xTs := xt_9 139 rfl rfl
theorem xp_X12_obeys : (⟨"MirrorHeirsModel", "obeys", "()Z"⟩ : MethodName).cls ≠ "java/lang/invoke/MethodHandle" ∧ (⟨"MirrorHeirsModel", "obeys", "()Z"⟩ : MethodName).cls ≠ "java/lang/invoke/VarHandle" ∧ (parseMethodDescriptor (⟨"MirrorHeirsModel", "obeys", "()Z"⟩ : MethodName).desc).map (fun d => d.parameters.length) = some 0 := by decide +kernel
theorem xs_X12_of : Cond.instanceMethod ⟨"MirrorHeirsModel", "of", "(II)I"⟩ ∈ xTs := xt_7 212 rfl rfl
theorem xq_X12_of : Cond.selects "MirrorHeirsModel" ⟨"MirrorHeirsModel", "of", "(II)I"⟩ ⟨"MirrorHeirsModel", "of", "(II)I"⟩ ∈ xTs := xt_7 213 rfl rfl
theorem xz_X12_of : Cond.initialized "MirrorHeirsModel" ∈ xTs := xt_1 15 rfl rfl
theorem xe_X12_of : Cond.code ⟨"MirrorHeirsModel", "of", "(II)I"⟩ prog_14_method_23_code 3 (some (.int)) ∈ xTs := xt_7 214 rfl rfl
theorem xp_X12_of : (⟨"MirrorHeirsModel", "of", "(II)I"⟩ : MethodName).cls ≠ "java/lang/invoke/MethodHandle" ∧ (⟨"MirrorHeirsModel", "of", "(II)I"⟩ : MethodName).cls ≠ "java/lang/invoke/VarHandle" ∧ (parseMethodDescriptor (⟨"MirrorHeirsModel", "of", "(II)I"⟩ : MethodName).desc).map (fun d => d.parameters.length) = some 2 := by decide +kernel
theorem xs_X12_ones : Cond.static ⟨"MirrorHeirsModel", "ones", "(I)I"⟩ ∈ xTs := xt_9 70 rfl rfl
theorem xz_X12_ones : Cond.initialized "MirrorHeirsModel" ∈ xTs := xt_1 15 rfl rfl
theorem xe_X12_ones : Cond.code ⟨"MirrorHeirsModel", "ones", "(I)I"⟩ prog_14_method_5_code 3 (some (.int)) ∈ xTs := xt_9 71 rfl rfl
theorem xp_X12_ones : (⟨"MirrorHeirsModel", "ones", "(I)I"⟩ : MethodName).cls ≠ "java/lang/invoke/MethodHandle" ∧ (⟨"MirrorHeirsModel", "ones", "(I)I"⟩ : MethodName).cls ≠ "java/lang/invoke/VarHandle" ∧ (parseMethodDescriptor (⟨"MirrorHeirsModel", "ones", "(I)I"⟩ : MethodName).desc).map (fun d => d.parameters.length) = some 1 := by decide +kernel
theorem xs_X12_orders : Cond.instanceMethod ⟨"MirrorHeirsModel", "orders", "()I"⟩ ∈ xTs := xt_9 121 rfl rfl
theorem xq_X12_orders : Cond.selects "MirrorHeirsModel" ⟨"MirrorHeirsModel", "orders", "()I"⟩ ⟨"MirrorHeirsModel", "orders", "()I"⟩ ∈ xTs := xt_9 122 rfl rfl
theorem xz_X12_orders : Cond.initialized "MirrorHeirsModel" ∈ xTs := xt_1 15 rfl rfl
theorem xe_X12_orders : Cond.code ⟨"MirrorHeirsModel", "orders", "()I"⟩ prog_14_method_117_code 5 (some (.int)) ∈ xTs := xt_9 123 rfl rfl
theorem xp_X12_orders : (⟨"MirrorHeirsModel", "orders", "()I"⟩ : MethodName).cls ≠ "java/lang/invoke/MethodHandle" ∧ (⟨"MirrorHeirsModel", "orders", "()I"⟩ : MethodName).cls ≠ "java/lang/invoke/VarHandle" ∧ (parseMethodDescriptor (⟨"MirrorHeirsModel", "orders", "()I"⟩ : MethodName).desc).map (fun d => d.parameters.length) = some 0 := by decide +kernel
theorem xs_X12_otherKind : Cond.static ⟨"MirrorHeirsModel", "otherKind", "(I)I"⟩ ∈ xTs := xt_7 236 rfl rfl
theorem xz_X12_otherKind : Cond.initialized "MirrorHeirsModel" ∈ xTs := xt_1 15 rfl rfl
theorem xe_X12_otherKind : Cond.code ⟨"MirrorHeirsModel", "otherKind", "(I)I"⟩ prog_14_method_24_code 1 (some (.int)) ∈ xTs := xt_7 237 rfl rfl
theorem xp_X12_otherKind : (⟨"MirrorHeirsModel", "otherKind", "(I)I"⟩ : MethodName).cls ≠ "java/lang/invoke/MethodHandle" ∧ (⟨"MirrorHeirsModel", "otherKind", "(I)I"⟩ : MethodName).cls ≠ "java/lang/invoke/VarHandle" ∧ (parseMethodDescriptor (⟨"MirrorHeirsModel", "otherKind", "(I)I"⟩ : MethodName).desc).map (fun d => d.parameters.length) = some 1 := by decide +kernel
theorem xs_X12_owner : Cond.instanceMethod ⟨"MirrorHeirsModel", "owner", "(II)I"⟩ ∈ xTs := xt_9 27 rfl rfl
theorem xq_X12_owner : Cond.selects "MirrorHeirsModel" ⟨"MirrorHeirsModel", "owner", "(II)I"⟩ ⟨"MirrorHeirsModel", "owner", "(II)I"⟩ ∈ xTs := xt_9 28 rfl rfl
theorem xz_X12_owner : Cond.initialized "MirrorHeirsModel" ∈ xTs := xt_1 15 rfl rfl
theorem xe_X12_owner : Cond.code ⟨"MirrorHeirsModel", "owner", "(II)I"⟩ prog_14_method_95_code 6 (some (.int)) ∈ xTs := xt_9 29 rfl rfl
theorem xp_X12_owner : (⟨"MirrorHeirsModel", "owner", "(II)I"⟩ : MethodName).cls ≠ "java/lang/invoke/MethodHandle" ∧ (⟨"MirrorHeirsModel", "owner", "(II)I"⟩ : MethodName).cls ≠ "java/lang/invoke/VarHandle" ∧ (parseMethodDescriptor (⟨"MirrorHeirsModel", "owner", "(II)I"⟩ : MethodName).desc).map (fun d => d.parameters.length) = some 2 := by decide +kernel
theorem xs_X12_pair : Cond.instanceMethod ⟨"MirrorHeirsModel", "pair", "(II)I"⟩ ∈ xTs := xt_8 236 rfl rfl
theorem xq_X12_pair : Cond.selects "MirrorHeirsModel" ⟨"MirrorHeirsModel", "pair", "(II)I"⟩ ⟨"MirrorHeirsModel", "pair", "(II)I"⟩ ∈ xTs := xt_8 237 rfl rfl
theorem xz_X12_pair : Cond.initialized "MirrorHeirsModel" ∈ xTs := xt_1 15 rfl rfl
theorem xe_X12_pair : Cond.code ⟨"MirrorHeirsModel", "pair", "(II)I"⟩ prog_14_method_92_code 3 (some (.int)) ∈ xTs := xt_8 238 rfl rfl
theorem xp_X12_pair : (⟨"MirrorHeirsModel", "pair", "(II)I"⟩ : MethodName).cls ≠ "java/lang/invoke/MethodHandle" ∧ (⟨"MirrorHeirsModel", "pair", "(II)I"⟩ : MethodName).cls ≠ "java/lang/invoke/VarHandle" ∧ (parseMethodDescriptor (⟨"MirrorHeirsModel", "pair", "(II)I"⟩ : MethodName).desc).map (fun d => d.parameters.length) = some 2 := by decide +kernel
theorem xs_X12_partOf : Cond.instanceMethod ⟨"MirrorHeirsModel", "partOf", "(Z)J"⟩ ∈ xTs := xt_8 174 rfl rfl
theorem xq_X12_partOf : Cond.selects "MirrorHeirsModel" ⟨"MirrorHeirsModel", "partOf", "(Z)J"⟩ ⟨"MirrorHeirsModel", "partOf", "(Z)J"⟩ ∈ xTs := xp6 13 rfl
theorem xz_X12_partOf : Cond.initialized "MirrorHeirsModel" ∈ xTs := xt_1 15 rfl rfl
theorem xe_X12_partOf : Cond.code ⟨"MirrorHeirsModel", "partOf", "(Z)J"⟩ prog_14_method_71_code 5 (some (.long)) ∈ xTs := xt_8 175 rfl rfl
theorem xp_X12_partOf : (⟨"MirrorHeirsModel", "partOf", "(Z)J"⟩ : MethodName).cls ≠ "java/lang/invoke/MethodHandle" ∧ (⟨"MirrorHeirsModel", "partOf", "(Z)J"⟩ : MethodName).cls ≠ "java/lang/invoke/VarHandle" ∧ (parseMethodDescriptor (⟨"MirrorHeirsModel", "partOf", "(Z)J"⟩ : MethodName).desc).map (fun d => d.parameters.length) = some 1 := by decide +kernel
theorem xs_X12_passes0 : Cond.instanceMethod ⟨"MirrorHeirsModel", "passes0", "(I)Z"⟩ ∈ xTs := xt_8 178 rfl rfl
theorem xq_X12_passes0 : Cond.selects "MirrorHeirsModel" ⟨"MirrorHeirsModel", "passes0", "(I)Z"⟩ ⟨"MirrorHeirsModel", "passes0", "(I)Z"⟩ ∈ xTs := xp6 14 rfl
theorem xz_X12_passes0 : Cond.initialized "MirrorHeirsModel" ∈ xTs := xt_1 15 rfl rfl
theorem xe_X12_passes0 : Cond.code ⟨"MirrorHeirsModel", "passes0", "(I)Z"⟩ prog_14_method_67_code 3 (some (.boolean)) ∈ xTs := xt_8 179 rfl rfl
theorem xp_X12_passes0 : (⟨"MirrorHeirsModel", "passes0", "(I)Z"⟩ : MethodName).cls ≠ "java/lang/invoke/MethodHandle" ∧ (⟨"MirrorHeirsModel", "passes0", "(I)Z"⟩ : MethodName).cls ≠ "java/lang/invoke/VarHandle" ∧ (parseMethodDescriptor (⟨"MirrorHeirsModel", "passes0", "(I)Z"⟩ : MethodName).desc).map (fun d => d.parameters.length) = some 1 := by decide +kernel
theorem xs_X12_peace : Cond.instanceMethod ⟨"MirrorHeirsModel", "peace", "(I)I"⟩ ∈ xTs := xt_9 101 rfl rfl
theorem xq_X12_peace : Cond.selects "MirrorHeirsModel" ⟨"MirrorHeirsModel", "peace", "(I)I"⟩ ⟨"MirrorHeirsModel", "peace", "(I)I"⟩ ∈ xTs := xt_9 102 rfl rfl
theorem xz_X12_peace : Cond.initialized "MirrorHeirsModel" ∈ xTs := xt_1 15 rfl rfl
theorem xe_X12_peace : Cond.code ⟨"MirrorHeirsModel", "peace", "(I)I"⟩ prog_14_method_114_code 7 (some (.int)) ∈ xTs := xt_9 103 rfl rfl
theorem xp_X12_peace : (⟨"MirrorHeirsModel", "peace", "(I)I"⟩ : MethodName).cls ≠ "java/lang/invoke/MethodHandle" ∧ (⟨"MirrorHeirsModel", "peace", "(I)I"⟩ : MethodName).cls ≠ "java/lang/invoke/VarHandle" ∧ (parseMethodDescriptor (⟨"MirrorHeirsModel", "peace", "(I)I"⟩ : MethodName).desc).map (fun d => d.parameters.length) = some 1 := by decide +kernel
theorem xs_X12_pivot : Cond.instanceMethod ⟨"MirrorHeirsModel", "pivot", "(III)I"⟩ ∈ xTs := xt_7 205 rfl rfl
theorem xq_X12_pivot : Cond.selects "MirrorHeirsModel" ⟨"MirrorHeirsModel", "pivot", "(III)I"⟩ ⟨"MirrorHeirsModel", "pivot", "(III)I"⟩ ∈ xTs := xt_7 206 rfl rfl
theorem xz_X12_pivot : Cond.initialized "MirrorHeirsModel" ∈ xTs := xt_1 15 rfl rfl
theorem xe_X12_pivot : Cond.code ⟨"MirrorHeirsModel", "pivot", "(III)I"⟩ prog_14_method_22_code 5 (some (.int)) ∈ xTs := xt_7 207 rfl rfl
theorem xp_X12_pivot : (⟨"MirrorHeirsModel", "pivot", "(III)I"⟩ : MethodName).cls ≠ "java/lang/invoke/MethodHandle" ∧ (⟨"MirrorHeirsModel", "pivot", "(III)I"⟩ : MethodName).cls ≠ "java/lang/invoke/VarHandle" ∧ (parseMethodDescriptor (⟨"MirrorHeirsModel", "pivot", "(III)I"⟩ : MethodName).desc).map (fun d => d.parameters.length) = some 3 := by decide +kernel
theorem xs_X12_pivotAt : Cond.instanceMethod ⟨"MirrorHeirsModel", "pivotAt", "(I)I"⟩ ∈ xTs := xt_7 194 rfl rfl
theorem xq_X12_pivotAt : Cond.selects "MirrorHeirsModel" ⟨"MirrorHeirsModel", "pivotAt", "(I)I"⟩ ⟨"MirrorHeirsModel", "pivotAt", "(I)I"⟩ ∈ xTs := xp4 12 rfl
theorem xz_X12_pivotAt : Cond.initialized "MirrorHeirsModel" ∈ xTs := xt_1 15 rfl rfl
theorem xe_X12_pivotAt : Cond.code ⟨"MirrorHeirsModel", "pivotAt", "(I)I"⟩ prog_14_method_14_code 2 (some (.int)) ∈ xTs := xt_7 195 rfl rfl
theorem xp_X12_pivotAt : (⟨"MirrorHeirsModel", "pivotAt", "(I)I"⟩ : MethodName).cls ≠ "java/lang/invoke/MethodHandle" ∧ (⟨"MirrorHeirsModel", "pivotAt", "(I)I"⟩ : MethodName).cls ≠ "java/lang/invoke/VarHandle" ∧ (parseMethodDescriptor (⟨"MirrorHeirsModel", "pivotAt", "(I)I"⟩ : MethodName).desc).map (fun d => d.parameters.length) = some 1 := by decide +kernel
theorem xs_X12_plainOf : Cond.instanceMethod ⟨"MirrorHeirsModel", "plainOf", "(Z)Z"⟩ ∈ xTs := xt_8 196 rfl rfl
theorem xq_X12_plainOf : Cond.selects "MirrorHeirsModel" ⟨"MirrorHeirsModel", "plainOf", "(Z)Z"⟩ ⟨"MirrorHeirsModel", "plainOf", "(Z)Z"⟩ ∈ xTs := xp7 2 rfl
theorem xz_X12_plainOf : Cond.initialized "MirrorHeirsModel" ∈ xTs := xt_1 15 rfl rfl
theorem xe_X12_plainOf : Cond.code ⟨"MirrorHeirsModel", "plainOf", "(Z)Z"⟩ prog_14_method_74_code 3 (some (.boolean)) ∈ xTs := xt_8 197 rfl rfl
theorem xp_X12_plainOf : (⟨"MirrorHeirsModel", "plainOf", "(Z)Z"⟩ : MethodName).cls ≠ "java/lang/invoke/MethodHandle" ∧ (⟨"MirrorHeirsModel", "plainOf", "(Z)Z"⟩ : MethodName).cls ≠ "java/lang/invoke/VarHandle" ∧ (parseMethodDescriptor (⟨"MirrorHeirsModel", "plainOf", "(Z)Z"⟩ : MethodName).desc).map (fun d => d.parameters.length) = some 1 := by decide +kernel
theorem xs_X12_positiveOf : Cond.instanceMethod ⟨"MirrorHeirsModel", "positiveOf", "(Z)Z"⟩ ∈ xTs := xt_8 200 rfl rfl
theorem xq_X12_positiveOf : Cond.selects "MirrorHeirsModel" ⟨"MirrorHeirsModel", "positiveOf", "(Z)Z"⟩ ⟨"MirrorHeirsModel", "positiveOf", "(Z)Z"⟩ ∈ xTs := xp7 3 rfl
theorem xz_X12_positiveOf : Cond.initialized "MirrorHeirsModel" ∈ xTs := xt_1 15 rfl rfl
theorem xe_X12_positiveOf : Cond.code ⟨"MirrorHeirsModel", "positiveOf", "(Z)Z"⟩ prog_14_method_75_code 7 (some (.boolean)) ∈ xTs := xt_8 201 rfl rfl
theorem xp_X12_positiveOf : (⟨"MirrorHeirsModel", "positiveOf", "(Z)Z"⟩ : MethodName).cls ≠ "java/lang/invoke/MethodHandle" ∧ (⟨"MirrorHeirsModel", "positiveOf", "(Z)Z"⟩ : MethodName).cls ≠ "java/lang/invoke/VarHandle" ∧ (parseMethodDescriptor (⟨"MirrorHeirsModel", "positiveOf", "(Z)Z"⟩ : MethodName).desc).map (fun d => d.parameters.length) = some 1 := by decide +kernel
theorem xs_X12_put : Cond.instanceMethod ⟨"MirrorHeirsModel", "put", "(II)I"⟩ ∈ xTs := xt_7 170 rfl rfl
theorem xq_X12_put : Cond.selects "MirrorHeirsModel" ⟨"MirrorHeirsModel", "put", "(II)I"⟩ ⟨"MirrorHeirsModel", "put", "(II)I"⟩ ∈ xTs := xt_7 171 rfl rfl
theorem xz_X12_put : Cond.initialized "MirrorHeirsModel" ∈ xTs := xt_1 15 rfl rfl
theorem xe_X12_put : Cond.code ⟨"MirrorHeirsModel", "put", "(II)I"⟩ prog_14_method_19_code 4 (some (.int)) ∈ xTs := xt_7 172 rfl rfl
theorem xp_X12_put : (⟨"MirrorHeirsModel", "put", "(II)I"⟩ : MethodName).cls ≠ "java/lang/invoke/MethodHandle" ∧ (⟨"MirrorHeirsModel", "put", "(II)I"⟩ : MethodName).cls ≠ "java/lang/invoke/VarHandle" ∧ (parseMethodDescriptor (⟨"MirrorHeirsModel", "put", "(II)I"⟩ : MethodName).desc).map (fun d => d.parameters.length) = some 2 := by decide +kernel
theorem xs_X12_quarrel : Cond.instanceMethod ⟨"MirrorHeirsModel", "quarrel", "(I)I"⟩ ∈ xTs := xt_9 113 rfl rfl
theorem xq_X12_quarrel : Cond.selects "MirrorHeirsModel" ⟨"MirrorHeirsModel", "quarrel", "(I)I"⟩ ⟨"MirrorHeirsModel", "quarrel", "(I)I"⟩ ∈ xTs := xt_9 114 rfl rfl
theorem xz_X12_quarrel : Cond.initialized "MirrorHeirsModel" ∈ xTs := xt_1 15 rfl rfl
theorem xe_X12_quarrel : Cond.code ⟨"MirrorHeirsModel", "quarrel", "(I)I"⟩ prog_14_method_115_code 9 (some (.int)) ∈ xTs := xt_9 115 rfl rfl
theorem xp_X12_quarrel : (⟨"MirrorHeirsModel", "quarrel", "(I)I"⟩ : MethodName).cls ≠ "java/lang/invoke/MethodHandle" ∧ (⟨"MirrorHeirsModel", "quarrel", "(I)I"⟩ : MethodName).cls ≠ "java/lang/invoke/VarHandle" ∧ (parseMethodDescriptor (⟨"MirrorHeirsModel", "quarrel", "(I)I"⟩ : MethodName).desc).map (fun d => d.parameters.length) = some 1 := by decide +kernel
theorem xs_X12_ray : Cond.instanceMethod ⟨"MirrorHeirsModel", "ray", "(III)I"⟩ ∈ xTs := xt_8 149 rfl rfl
theorem xq_X12_ray : Cond.selects "MirrorHeirsModel" ⟨"MirrorHeirsModel", "ray", "(III)I"⟩ ⟨"MirrorHeirsModel", "ray", "(III)I"⟩ ∈ xTs := xt_8 150 rfl rfl
theorem xz_X12_ray : Cond.initialized "MirrorHeirsModel" ∈ xTs := xt_1 15 rfl rfl
theorem xe_X12_ray : Cond.code ⟨"MirrorHeirsModel", "ray", "(III)I"⟩ prog_14_method_84_code 9 (some (.int)) ∈ xTs := xt_8 151 rfl rfl
theorem xp_X12_ray : (⟨"MirrorHeirsModel", "ray", "(III)I"⟩ : MethodName).cls ≠ "java/lang/invoke/MethodHandle" ∧ (⟨"MirrorHeirsModel", "ray", "(III)I"⟩ : MethodName).cls ≠ "java/lang/invoke/VarHandle" ∧ (parseMethodDescriptor (⟨"MirrorHeirsModel", "ray", "(III)I"⟩ : MethodName).desc).map (fun d => d.parameters.length) = some 3 := by decide +kernel
theorem xs_X12_readBoth : Cond.instanceMethod ⟨"MirrorHeirsModel", "readBoth", "(I)V"⟩ ∈ xTs := xt_8 126 rfl rfl
theorem xq_X12_readBoth : Cond.selects "MirrorHeirsModel" ⟨"MirrorHeirsModel", "readBoth", "(I)V"⟩ ⟨"MirrorHeirsModel", "readBoth", "(I)V"⟩ ∈ xTs := xp6 4 rfl
theorem xz_X12_readBoth : Cond.initialized "MirrorHeirsModel" ∈ xTs := xt_1 15 rfl rfl
theorem xe_X12_readBoth : Cond.code ⟨"MirrorHeirsModel", "readBoth", "(I)V"⟩ prog_14_method_55_code 2 none ∈ xTs := xt_8 127 rfl rfl
theorem xp_X12_readBoth : (⟨"MirrorHeirsModel", "readBoth", "(I)V"⟩ : MethodName).cls ≠ "java/lang/invoke/MethodHandle" ∧ (⟨"MirrorHeirsModel", "readBoth", "(I)V"⟩ : MethodName).cls ≠ "java/lang/invoke/VarHandle" ∧ (parseMethodDescriptor (⟨"MirrorHeirsModel", "readBoth", "(I)V"⟩ : MethodName).desc).map (fun d => d.parameters.length) = some 1 := by decide +kernel
theorem xs_X12_readClause : Cond.instanceMethod ⟨"MirrorHeirsModel", "readClause", "()V"⟩ ∈ xTs := xt_8 134 rfl rfl
theorem xq_X12_readClause : Cond.selects "MirrorHeirsModel" ⟨"MirrorHeirsModel", "readClause", "()V"⟩ ⟨"MirrorHeirsModel", "readClause", "()V"⟩ ∈ xTs := xp6 6 rfl
theorem xz_X12_readClause : Cond.initialized "MirrorHeirsModel" ∈ xTs := xt_1 15 rfl rfl
theorem xe_X12_readClause : Cond.code ⟨"MirrorHeirsModel", "readClause", "()V"⟩ prog_14_method_51_code 1 none ∈ xTs := xt_8 135 rfl rfl
theorem xp_X12_readClause : (⟨"MirrorHeirsModel", "readClause", "()V"⟩ : MethodName).cls ≠ "java/lang/invoke/MethodHandle" ∧ (⟨"MirrorHeirsModel", "readClause", "()V"⟩ : MethodName).cls ≠ "java/lang/invoke/VarHandle" ∧ (parseMethodDescriptor (⟨"MirrorHeirsModel", "readClause", "()V"⟩ : MethodName).desc).map (fun d => d.parameters.length) = some 0 := by decide +kernel
theorem xs_X12_readOne : Cond.instanceMethod ⟨"MirrorHeirsModel", "readOne", "()V"⟩ ∈ xTs := xt_8 75 rfl rfl
theorem xq_X12_readOne : Cond.selects "MirrorHeirsModel" ⟨"MirrorHeirsModel", "readOne", "()V"⟩ ⟨"MirrorHeirsModel", "readOne", "()V"⟩ ∈ xTs := xp5 8 rfl
theorem xz_X12_readOne : Cond.initialized "MirrorHeirsModel" ∈ xTs := xt_1 15 rfl rfl
theorem xe_X12_readOne : Cond.code ⟨"MirrorHeirsModel", "readOne", "()V"⟩ prog_14_method_53_code 1 none ∈ xTs := xt_8 76 rfl rfl
theorem xp_X12_readOne : (⟨"MirrorHeirsModel", "readOne", "()V"⟩ : MethodName).cls ≠ "java/lang/invoke/MethodHandle" ∧ (⟨"MirrorHeirsModel", "readOne", "()V"⟩ : MethodName).cls ≠ "java/lang/invoke/VarHandle" ∧ (parseMethodDescriptor (⟨"MirrorHeirsModel", "readOne", "()V"⟩ : MethodName).desc).map (fun d => d.parameters.length) = some 0 := by decide +kernel
theorem xs_X12_readOrder : Cond.instanceMethod ⟨"MirrorHeirsModel", "readOrder", "()V"⟩ ∈ xTs := xt_8 79 rfl rfl
theorem xq_X12_readOrder : Cond.selects "MirrorHeirsModel" ⟨"MirrorHeirsModel", "readOrder", "()V"⟩ ⟨"MirrorHeirsModel", "readOrder", "()V"⟩ ∈ xTs := xp5 9 rfl
theorem xz_X12_readOrder : Cond.initialized "MirrorHeirsModel" ∈ xTs := xt_1 15 rfl rfl
theorem xe_X12_readOrder : Cond.code ⟨"MirrorHeirsModel", "readOrder", "()V"⟩ prog_14_method_52_code 1 none ∈ xTs := xt_8 80 rfl rfl
theorem xp_X12_readOrder : (⟨"MirrorHeirsModel", "readOrder", "()V"⟩ : MethodName).cls ≠ "java/lang/invoke/MethodHandle" ∧ (⟨"MirrorHeirsModel", "readOrder", "()V"⟩ : MethodName).cls ≠ "java/lang/invoke/VarHandle" ∧ (parseMethodDescriptor (⟨"MirrorHeirsModel", "readOrder", "()V"⟩ : MethodName).desc).map (fun d => d.parameters.length) = some 0 := by decide +kernel
theorem xs_X12_readPart : Cond.instanceMethod ⟨"MirrorHeirsModel", "readPart", "(I)V"⟩ ∈ xTs := xt_8 99 rfl rfl
theorem xq_X12_readPart : Cond.selects "MirrorHeirsModel" ⟨"MirrorHeirsModel", "readPart", "(I)V"⟩ ⟨"MirrorHeirsModel", "readPart", "(I)V"⟩ ∈ xTs := xp5 14 rfl
theorem xz_X12_readPart : Cond.initialized "MirrorHeirsModel" ∈ xTs := xt_1 15 rfl rfl
theorem xe_X12_readPart : Cond.code ⟨"MirrorHeirsModel", "readPart", "(I)V"⟩ prog_14_method_59_code 3 none ∈ xTs := xt_8 100 rfl rfl
theorem xp_X12_readPart : (⟨"MirrorHeirsModel", "readPart", "(I)V"⟩ : MethodName).cls ≠ "java/lang/invoke/MethodHandle" ∧ (⟨"MirrorHeirsModel", "readPart", "(I)V"⟩ : MethodName).cls ≠ "java/lang/invoke/VarHandle" ∧ (parseMethodDescriptor (⟨"MirrorHeirsModel", "readPart", "(I)V"⟩ : MethodName).desc).map (fun d => d.parameters.length) = some 1 := by decide +kernel
theorem xs_X12_readPlain : Cond.instanceMethod ⟨"MirrorHeirsModel", "readPlain", "(I)V"⟩ ∈ xTs := xt_8 130 rfl rfl
theorem xq_X12_readPlain : Cond.selects "MirrorHeirsModel" ⟨"MirrorHeirsModel", "readPlain", "(I)V"⟩ ⟨"MirrorHeirsModel", "readPlain", "(I)V"⟩ ∈ xTs := xp6 5 rfl
theorem xz_X12_readPlain : Cond.initialized "MirrorHeirsModel" ∈ xTs := xt_1 15 rfl rfl
theorem xe_X12_readPlain : Cond.code ⟨"MirrorHeirsModel", "readPlain", "(I)V"⟩ prog_14_method_56_code 4 none ∈ xTs := xt_8 131 rfl rfl
theorem xp_X12_readPlain : (⟨"MirrorHeirsModel", "readPlain", "(I)V"⟩ : MethodName).cls ≠ "java/lang/invoke/MethodHandle" ∧ (⟨"MirrorHeirsModel", "readPlain", "(I)V"⟩ : MethodName).cls ≠ "java/lang/invoke/VarHandle" ∧ (parseMethodDescriptor (⟨"MirrorHeirsModel", "readPlain", "(I)V"⟩ : MethodName).desc).map (fun d => d.parameters.length) = some 1 := by decide +kernel
theorem xs_X12_readSum : Cond.instanceMethod ⟨"MirrorHeirsModel", "readSum", "(I)V"⟩ ∈ xTs := xt_8 91 rfl rfl
theorem xq_X12_readSum : Cond.selects "MirrorHeirsModel" ⟨"MirrorHeirsModel", "readSum", "(I)V"⟩ ⟨"MirrorHeirsModel", "readSum", "(I)V"⟩ ∈ xTs := xp5 12 rfl
theorem xz_X12_readSum : Cond.initialized "MirrorHeirsModel" ∈ xTs := xt_1 15 rfl rfl
theorem xe_X12_readSum : Cond.code ⟨"MirrorHeirsModel", "readSum", "(I)V"⟩ prog_14_method_57_code 2 none ∈ xTs := xt_8 92 rfl rfl
theorem xp_X12_readSum : (⟨"MirrorHeirsModel", "readSum", "(I)V"⟩ : MethodName).cls ≠ "java/lang/invoke/MethodHandle" ∧ (⟨"MirrorHeirsModel", "readSum", "(I)V"⟩ : MethodName).cls ≠ "java/lang/invoke/VarHandle" ∧ (parseMethodDescriptor (⟨"MirrorHeirsModel", "readSum", "(I)V"⟩ : MethodName).desc).map (fun d => d.parameters.length) = some 1 := by decide +kernel
theorem xs_X12_readTerm : Cond.instanceMethod ⟨"MirrorHeirsModel", "readTerm", "(I)V"⟩ ∈ xTs := xt_8 95 rfl rfl
theorem xq_X12_readTerm : Cond.selects "MirrorHeirsModel" ⟨"MirrorHeirsModel", "readTerm", "(I)V"⟩ ⟨"MirrorHeirsModel", "readTerm", "(I)V"⟩ ∈ xTs := xp5 13 rfl
theorem xz_X12_readTerm : Cond.initialized "MirrorHeirsModel" ∈ xTs := xt_1 15 rfl rfl
theorem xe_X12_readTerm : Cond.code ⟨"MirrorHeirsModel", "readTerm", "(I)V"⟩ prog_14_method_58_code 2 none ∈ xTs := xt_8 96 rfl rfl
theorem xp_X12_readTerm : (⟨"MirrorHeirsModel", "readTerm", "(I)V"⟩ : MethodName).cls ≠ "java/lang/invoke/MethodHandle" ∧ (⟨"MirrorHeirsModel", "readTerm", "(I)V"⟩ : MethodName).cls ≠ "java/lang/invoke/VarHandle" ∧ (parseMethodDescriptor (⟨"MirrorHeirsModel", "readTerm", "(I)V"⟩ : MethodName).desc).map (fun d => d.parameters.length) = some 1 := by decide +kernel
theorem xs_X12_readTest : Cond.instanceMethod ⟨"MirrorHeirsModel", "readTest", "(I)V"⟩ ∈ xTs := xt_8 122 rfl rfl
theorem xq_X12_readTest : Cond.selects "MirrorHeirsModel" ⟨"MirrorHeirsModel", "readTest", "(I)V"⟩ ⟨"MirrorHeirsModel", "readTest", "(I)V"⟩ ∈ xTs := xp6 3 rfl
theorem xz_X12_readTest : Cond.initialized "MirrorHeirsModel" ∈ xTs := xt_1 15 rfl rfl
theorem xe_X12_readTest : Cond.code ⟨"MirrorHeirsModel", "readTest", "(I)V"⟩ prog_14_method_54_code 2 none ∈ xTs := xt_8 123 rfl rfl
theorem xp_X12_readTest : (⟨"MirrorHeirsModel", "readTest", "(I)V"⟩ : MethodName).cls ≠ "java/lang/invoke/MethodHandle" ∧ (⟨"MirrorHeirsModel", "readTest", "(I)V"⟩ : MethodName).cls ≠ "java/lang/invoke/VarHandle" ∧ (parseMethodDescriptor (⟨"MirrorHeirsModel", "readTest", "(I)V"⟩ : MethodName).desc).map (fun d => d.parameters.length) = some 1 := by decide +kernel
theorem xs_X12_reads : Cond.instanceMethod ⟨"MirrorHeirsModel", "reads", "()Z"⟩ ∈ xTs := xt_8 56 rfl rfl
theorem xq_X12_reads : Cond.selects "MirrorHeirsModel" ⟨"MirrorHeirsModel", "reads", "()Z"⟩ ⟨"MirrorHeirsModel", "reads", "()Z"⟩ ∈ xTs := xp5 5 rfl
theorem xz_X12_reads : Cond.initialized "MirrorHeirsModel" ∈ xTs := xt_1 15 rfl rfl
theorem xe_X12_reads : Cond.code ⟨"MirrorHeirsModel", "reads", "()Z"⟩ prog_14_method_60_code 2 (some (.boolean)) ∈ xTs := xt_8 57 rfl rfl
theorem xp_X12_reads : (⟨"MirrorHeirsModel", "reads", "()Z"⟩ : MethodName).cls ≠ "java/lang/invoke/MethodHandle" ∧ (⟨"MirrorHeirsModel", "reads", "()Z"⟩ : MethodName).cls ≠ "java/lang/invoke/VarHandle" ∧ (parseMethodDescriptor (⟨"MirrorHeirsModel", "reads", "()Z"⟩ : MethodName).desc).map (fun d => d.parameters.length) = some 0 := by decide +kernel
theorem xs_X12_readsAs : Cond.instanceMethod ⟨"MirrorHeirsModel", "readsAs", "(Z)Z"⟩ ∈ xTs := xt_8 52 rfl rfl
theorem xq_X12_readsAs : Cond.selects "MirrorHeirsModel" ⟨"MirrorHeirsModel", "readsAs", "(Z)Z"⟩ ⟨"MirrorHeirsModel", "readsAs", "(Z)Z"⟩ ∈ xTs := xp5 4 rfl
theorem xz_X12_readsAs : Cond.initialized "MirrorHeirsModel" ∈ xTs := xt_1 15 rfl rfl
theorem xe_X12_readsAs : Cond.code ⟨"MirrorHeirsModel", "readsAs", "(Z)Z"⟩ prog_14_method_61_code 2 (some (.boolean)) ∈ xTs := xt_8 53 rfl rfl
theorem xp_X12_readsAs : (⟨"MirrorHeirsModel", "readsAs", "(Z)Z"⟩ : MethodName).cls ≠ "java/lang/invoke/MethodHandle" ∧ (⟨"MirrorHeirsModel", "readsAs", "(Z)Z"⟩ : MethodName).cls ≠ "java/lang/invoke/VarHandle" ∧ (parseMethodDescriptor (⟨"MirrorHeirsModel", "readsAs", "(Z)Z"⟩ : MethodName).desc).map (fun d => d.parameters.length) = some 1 := by decide +kernel
theorem xs_X12_refuses : Cond.instanceMethod ⟨"MirrorHeirsModel", "refuses", "(I)I"⟩ ∈ xTs := xt_7 159 rfl rfl
theorem xq_X12_refuses : Cond.selects "MirrorHeirsModel" ⟨"MirrorHeirsModel", "refuses", "(I)I"⟩ ⟨"MirrorHeirsModel", "refuses", "(I)I"⟩ ∈ xTs := xp4 6 rfl
theorem xz_X12_refuses : Cond.initialized "MirrorHeirsModel" ∈ xTs := xt_1 15 rfl rfl
theorem xe_X12_refuses : Cond.code ⟨"MirrorHeirsModel", "refuses", "(I)I"⟩ prog_14_method_2_code 2 (some (.int)) ∈ xTs := xt_7 160 rfl rfl
theorem xp_X12_refuses : (⟨"MirrorHeirsModel", "refuses", "(I)I"⟩ : MethodName).cls ≠ "java/lang/invoke/MethodHandle" ∧ (⟨"MirrorHeirsModel", "refuses", "(I)I"⟩ : MethodName).cls ≠ "java/lang/invoke/VarHandle" ∧ (parseMethodDescriptor (⟨"MirrorHeirsModel", "refuses", "(I)I"⟩ : MethodName).desc).map (fun d => d.parameters.length) = some 1 := by decide +kernel
theorem xs_X12_rentNow : Cond.instanceMethod ⟨"MirrorHeirsModel", "rentNow", "()I"⟩ ∈ xTs := xt_9 40 rfl rfl
theorem xq_X12_rentNow : Cond.selects "MirrorHeirsModel" ⟨"MirrorHeirsModel", "rentNow", "()I"⟩ ⟨"MirrorHeirsModel", "rentNow", "()I"⟩ ∈ xTs := xp7 13 rfl
theorem xz_X12_rentNow : Cond.initialized "MirrorHeirsModel" ∈ xTs := xt_1 15 rfl rfl
theorem xe_X12_rentNow : Cond.code ⟨"MirrorHeirsModel", "rentNow", "()I"⟩ prog_14_method_97_code 3 (some (.int)) ∈ xTs := xt_9 41 rfl rfl
theorem xp_X12_rentNow : (⟨"MirrorHeirsModel", "rentNow", "()I"⟩ : MethodName).cls ≠ "java/lang/invoke/MethodHandle" ∧ (⟨"MirrorHeirsModel", "rentNow", "()I"⟩ : MethodName).cls ≠ "java/lang/invoke/VarHandle" ∧ (parseMethodDescriptor (⟨"MirrorHeirsModel", "rentNow", "()I"⟩ : MethodName).desc).map (fun d => d.parameters.length) = some 0 := by decide +kernel
theorem xs_X12_reveal : Cond.instanceMethod ⟨"MirrorHeirsModel", "reveal", "(IIII)I"⟩ ∈ xTs := xt_9 85 rfl rfl
theorem xq_X12_reveal : Cond.selects "MirrorHeirsModel" ⟨"MirrorHeirsModel", "reveal", "(IIII)I"⟩ ⟨"MirrorHeirsModel", "reveal", "(IIII)I"⟩ ∈ xTs := xt_9 86 rfl rfl
theorem xz_X12_reveal : Cond.initialized "MirrorHeirsModel" ∈ xTs := xt_1 15 rfl rfl
theorem xe_X12_reveal : Cond.code ⟨"MirrorHeirsModel", "reveal", "(IIII)I"⟩ prog_14_method_109_code 11 (some (.int)) ∈ xTs := xt_9 87 rfl rfl
theorem xp_X12_reveal : (⟨"MirrorHeirsModel", "reveal", "(IIII)I"⟩ : MethodName).cls ≠ "java/lang/invoke/MethodHandle" ∧ (⟨"MirrorHeirsModel", "reveal", "(IIII)I"⟩ : MethodName).cls ≠ "java/lang/invoke/VarHandle" ∧ (parseMethodDescriptor (⟨"MirrorHeirsModel", "reveal", "(IIII)I"⟩ : MethodName).desc).map (fun d => d.parameters.length) = some 4 := by decide +kernel
theorem xs_X12_rises : Cond.static ⟨"MirrorHeirsModel", "rises", "(I)Z"⟩ ∈ xTs := xt_8 213 rfl rfl
theorem xz_X12_rises : Cond.initialized "MirrorHeirsModel" ∈ xTs := xt_1 15 rfl rfl
theorem xe_X12_rises : Cond.code ⟨"MirrorHeirsModel", "rises", "(I)Z"⟩ prog_14_method_79_code 1 (some (.boolean)) ∈ xTs := xt_8 214 rfl rfl
theorem xp_X12_rises : (⟨"MirrorHeirsModel", "rises", "(I)Z"⟩ : MethodName).cls ≠ "java/lang/invoke/MethodHandle" ∧ (⟨"MirrorHeirsModel", "rises", "(I)Z"⟩ : MethodName).cls ≠ "java/lang/invoke/VarHandle" ∧ (parseMethodDescriptor (⟨"MirrorHeirsModel", "rises", "(I)Z"⟩ : MethodName).desc).map (fun d => d.parameters.length) = some 1 := by decide +kernel
theorem xs_X12_row : Cond.instanceMethod ⟨"MirrorHeirsModel", "row", "()I"⟩ ∈ xTs := xt_8 31 rfl rfl
theorem xq_X12_row : Cond.selects "MirrorHeirsModel" ⟨"MirrorHeirsModel", "row", "()I"⟩ ⟨"MirrorHeirsModel", "row", "()I"⟩ ∈ xTs := xt_8 32 rfl rfl
theorem xz_X12_row : Cond.initialized "MirrorHeirsModel" ∈ xTs := xt_1 15 rfl rfl
theorem xe_X12_row : Cond.code ⟨"MirrorHeirsModel", "row", "()I"⟩ prog_14_method_36_code 5 (some (.int)) ∈ xTs := xt_8 33 rfl rfl
theorem xp_X12_row : (⟨"MirrorHeirsModel", "row", "()I"⟩ : MethodName).cls ≠ "java/lang/invoke/MethodHandle" ∧ (⟨"MirrorHeirsModel", "row", "()I"⟩ : MethodName).cls ≠ "java/lang/invoke/VarHandle" ∧ (parseMethodDescriptor (⟨"MirrorHeirsModel", "row", "()I"⟩ : MethodName).desc).map (fun d => d.parameters.length) = some 0 := by decide +kernel
theorem xs_X12_runs : Cond.instanceMethod ⟨"MirrorHeirsModel", "runs", "(I)Z"⟩ ∈ xTs := xt_9 126 rfl rfl
theorem xq_X12_runs : Cond.selects "MirrorHeirsModel" ⟨"MirrorHeirsModel", "runs", "(I)Z"⟩ ⟨"MirrorHeirsModel", "runs", "(I)Z"⟩ ∈ xTs := xp8 4 rfl
theorem xz_X12_runs : Cond.initialized "MirrorHeirsModel" ∈ xTs := xt_1 15 rfl rfl
theorem xe_X12_runs : Cond.code ⟨"MirrorHeirsModel", "runs", "(I)Z"⟩ prog_14_method_120_code 5 (some (.boolean)) ∈ xTs := xt_9 127 rfl rfl
theorem xp_X12_runs : (⟨"MirrorHeirsModel", "runs", "(I)Z"⟩ : MethodName).cls ≠ "java/lang/invoke/MethodHandle" ∧ (⟨"MirrorHeirsModel", "runs", "(I)Z"⟩ : MethodName).cls ≠ "java/lang/invoke/VarHandle" ∧ (parseMethodDescriptor (⟨"MirrorHeirsModel", "runs", "(I)Z"⟩ : MethodName).desc).map (fun d => d.parameters.length) = some 1 := by decide +kernel
theorem xs_X12_setsOrder : Cond.instanceMethod ⟨"MirrorHeirsModel", "setsOrder", "(I)V"⟩ ∈ xTs := xt_9 130 rfl rfl
theorem xq_X12_setsOrder : Cond.selects "MirrorHeirsModel" ⟨"MirrorHeirsModel", "setsOrder", "(I)V"⟩ ⟨"MirrorHeirsModel", "setsOrder", "(I)V"⟩ ∈ xTs := xp8 5 rfl
theorem xz_X12_setsOrder : Cond.initialized "MirrorHeirsModel" ∈ xTs := xt_1 15 rfl rfl
theorem xe_X12_setsOrder : Cond.code ⟨"MirrorHeirsModel", "setsOrder", "(I)V"⟩ prog_14_method_118_code 4 none ∈ xTs := xt_9 131 rfl rfl
theorem xp_X12_setsOrder : (⟨"MirrorHeirsModel", "setsOrder", "(I)V"⟩ : MethodName).cls ≠ "java/lang/invoke/MethodHandle" ∧ (⟨"MirrorHeirsModel", "setsOrder", "(I)V"⟩ : MethodName).cls ≠ "java/lang/invoke/VarHandle" ∧ (parseMethodDescriptor (⟨"MirrorHeirsModel", "setsOrder", "(I)V"⟩ : MethodName).desc).map (fun d => d.parameters.length) = some 1 := by decide +kernel
theorem xs_X12_sign : Cond.static ⟨"MirrorHeirsModel", "sign", "(C)I"⟩ ∈ xTs := xt_8 102 rfl rfl
theorem xz_X12_sign : Cond.initialized "MirrorHeirsModel" ∈ xTs := xt_1 15 rfl rfl
theorem xe_X12_sign : Cond.code ⟨"MirrorHeirsModel", "sign", "(C)I"⟩ prog_14_method_49_code 1 (some (.int)) ∈ xTs := xt_8 103 rfl rfl
theorem xp_X12_sign : (⟨"MirrorHeirsModel", "sign", "(C)I"⟩ : MethodName).cls ≠ "java/lang/invoke/MethodHandle" ∧ (⟨"MirrorHeirsModel", "sign", "(C)I"⟩ : MethodName).cls ≠ "java/lang/invoke/VarHandle" ∧ (parseMethodDescriptor (⟨"MirrorHeirsModel", "sign", "(C)I"⟩ : MethodName).desc).map (fun d => d.parameters.length) = some 1 := by decide +kernel
theorem xs_X12_splits : Cond.instanceMethod ⟨"MirrorHeirsModel", "splits", "(I)V"⟩ ∈ xTs := xt_8 60 rfl rfl
theorem xq_X12_splits : Cond.selects "MirrorHeirsModel" ⟨"MirrorHeirsModel", "splits", "(I)V"⟩ ⟨"MirrorHeirsModel", "splits", "(I)V"⟩ ∈ xTs := xp5 6 rfl
theorem xz_X12_splits : Cond.initialized "MirrorHeirsModel" ∈ xTs := xt_1 15 rfl rfl
theorem xe_X12_splits : Cond.code ⟨"MirrorHeirsModel", "splits", "(I)V"⟩ prog_14_method_43_code 6 none ∈ xTs := xt_8 61 rfl rfl
theorem xp_X12_splits : (⟨"MirrorHeirsModel", "splits", "(I)V"⟩ : MethodName).cls ≠ "java/lang/invoke/MethodHandle" ∧ (⟨"MirrorHeirsModel", "splits", "(I)V"⟩ : MethodName).cls ≠ "java/lang/invoke/VarHandle" ∧ (parseMethodDescriptor (⟨"MirrorHeirsModel", "splits", "(I)V"⟩ : MethodName).desc).map (fun d => d.parameters.length) = some 1 := by decide +kernel
theorem xs_X12_stand : Cond.instanceMethod ⟨"MirrorHeirsModel", "stand", "(II)I"⟩ ∈ xTs := xt_9 43 rfl rfl
theorem xq_X12_stand : Cond.selects "MirrorHeirsModel" ⟨"MirrorHeirsModel", "stand", "(II)I"⟩ ⟨"MirrorHeirsModel", "stand", "(II)I"⟩ ∈ xTs := xt_9 44 rfl rfl
theorem xz_X12_stand : Cond.initialized "MirrorHeirsModel" ∈ xTs := xt_1 15 rfl rfl
theorem xe_X12_stand : Cond.code ⟨"MirrorHeirsModel", "stand", "(II)I"⟩ prog_14_method_99_code 4 (some (.int)) ∈ xTs := xt_9 45 rfl rfl
theorem xp_X12_stand : (⟨"MirrorHeirsModel", "stand", "(II)I"⟩ : MethodName).cls ≠ "java/lang/invoke/MethodHandle" ∧ (⟨"MirrorHeirsModel", "stand", "(II)I"⟩ : MethodName).cls ≠ "java/lang/invoke/VarHandle" ∧ (parseMethodDescriptor (⟨"MirrorHeirsModel", "stand", "(II)I"⟩ : MethodName).desc).map (fun d => d.parameters.length) = some 2 := by decide +kernel
theorem xs_X12_standsBy : Cond.instanceMethod ⟨"MirrorHeirsModel", "standsBy", "(I)I"⟩ ∈ xTs := xt_9 48 rfl rfl
theorem xq_X12_standsBy : Cond.selects "MirrorHeirsModel" ⟨"MirrorHeirsModel", "standsBy", "(I)I"⟩ ⟨"MirrorHeirsModel", "standsBy", "(I)I"⟩ ∈ xTs := xp7 14 rfl
theorem xz_X12_standsBy : Cond.initialized "MirrorHeirsModel" ∈ xTs := xt_1 15 rfl rfl
theorem xe_X12_standsBy : Cond.code ⟨"MirrorHeirsModel", "standsBy", "(I)I"⟩ prog_14_method_100_code 10 (some (.int)) ∈ xTs := xt_9 49 rfl rfl
theorem xp_X12_standsBy : (⟨"MirrorHeirsModel", "standsBy", "(I)I"⟩ : MethodName).cls ≠ "java/lang/invoke/MethodHandle" ∧ (⟨"MirrorHeirsModel", "standsBy", "(I)I"⟩ : MethodName).cls ≠ "java/lang/invoke/VarHandle" ∧ (parseMethodDescriptor (⟨"MirrorHeirsModel", "standsBy", "(I)I"⟩ : MethodName).desc).map (fun d => d.parameters.length) = some 1 := by decide +kernel
theorem xs_X12_status : Cond.instanceMethod ⟨"MirrorHeirsModel", "status", "()I"⟩ ∈ xTs := xt_9 163 rfl rfl
theorem xq_X12_status : Cond.selects "MirrorHeirsModel" ⟨"MirrorHeirsModel", "status", "()I"⟩ ⟨"MirrorHeirsModel", "status", "()I"⟩ ∈ xTs := xt_9 164 rfl rfl
theorem xz_X12_status : Cond.initialized "MirrorHeirsModel" ∈ xTs := xt_1 15 rfl rfl
theorem xe_X12_status : Cond.code ⟨"MirrorHeirsModel", "status", "()I"⟩ prog_14_method_127_code 1 (some (.int)) ∈ xTs := xt_9 165 rfl rfl
theorem xp_X12_status : (⟨"MirrorHeirsModel", "status", "()I"⟩ : MethodName).cls ≠ "java/lang/invoke/MethodHandle" ∧ (⟨"MirrorHeirsModel", "status", "()I"⟩ : MethodName).cls ≠ "java/lang/invoke/VarHandle" ∧ (parseMethodDescriptor (⟨"MirrorHeirsModel", "status", "()I"⟩ : MethodName).desc).map (fun d => d.parameters.length) = some 0 := by decide +kernel
theorem xs_X12_stopped : Cond.instanceMethod ⟨"MirrorHeirsModel", "stopped", "()I"⟩ ∈ xTs := xt_9 117 rfl rfl
theorem xq_X12_stopped : Cond.selects "MirrorHeirsModel" ⟨"MirrorHeirsModel", "stopped", "()I"⟩ ⟨"MirrorHeirsModel", "stopped", "()I"⟩ ∈ xTs := xt_9 118 rfl rfl
theorem xz_X12_stopped : Cond.initialized "MirrorHeirsModel" ∈ xTs := xt_1 15 rfl rfl
theorem xe_X12_stopped : Cond.code ⟨"MirrorHeirsModel", "stopped", "()I"⟩ prog_14_method_116_code 1 (some (.int)) ∈ xTs := xt_9 119 rfl rfl
theorem xp_X12_stopped : (⟨"MirrorHeirsModel", "stopped", "()I"⟩ : MethodName).cls ≠ "java/lang/invoke/MethodHandle" ∧ (⟨"MirrorHeirsModel", "stopped", "()I"⟩ : MethodName).cls ≠ "java/lang/invoke/VarHandle" ∧ (parseMethodDescriptor (⟨"MirrorHeirsModel", "stopped", "()I"⟩ : MethodName).desc).map (fun d => d.parameters.length) = some 0 := by decide +kernel
theorem xs_X12_stranger : Cond.instanceMethod ⟨"MirrorHeirsModel", "stranger", "(I)I"⟩ ∈ xTs := xt_9 77 rfl rfl
theorem xq_X12_stranger : Cond.selects "MirrorHeirsModel" ⟨"MirrorHeirsModel", "stranger", "(I)I"⟩ ⟨"MirrorHeirsModel", "stranger", "(I)I"⟩ ∈ xTs := xt_9 78 rfl rfl
theorem xz_X12_stranger : Cond.initialized "MirrorHeirsModel" ∈ xTs := xt_1 15 rfl rfl
theorem xe_X12_stranger : Cond.code ⟨"MirrorHeirsModel", "stranger", "(I)I"⟩ prog_14_method_106_code 6 (some (.int)) ∈ xTs := xt_9 79 rfl rfl
theorem xp_X12_stranger : (⟨"MirrorHeirsModel", "stranger", "(I)I"⟩ : MethodName).cls ≠ "java/lang/invoke/MethodHandle" ∧ (⟨"MirrorHeirsModel", "stranger", "(I)I"⟩ : MethodName).cls ≠ "java/lang/invoke/VarHandle" ∧ (parseMethodDescriptor (⟨"MirrorHeirsModel", "stranger", "(I)I"⟩ : MethodName).desc).map (fun d => d.parameters.length) = some 1 := by decide +kernel
theorem xs_X12_sumOf : Cond.instanceMethod ⟨"MirrorHeirsModel", "sumOf", "(Z)J"⟩ ∈ xTs := xt_8 166 rfl rfl
theorem xq_X12_sumOf : Cond.selects "MirrorHeirsModel" ⟨"MirrorHeirsModel", "sumOf", "(Z)J"⟩ ⟨"MirrorHeirsModel", "sumOf", "(Z)J"⟩ ∈ xTs := xp6 11 rfl
theorem xz_X12_sumOf : Cond.initialized "MirrorHeirsModel" ∈ xTs := xt_1 15 rfl rfl
theorem xe_X12_sumOf : Cond.code ⟨"MirrorHeirsModel", "sumOf", "(Z)J"⟩ prog_14_method_69_code 7 (some (.long)) ∈ xTs := xt_8 167 rfl rfl
theorem xp_X12_sumOf : (⟨"MirrorHeirsModel", "sumOf", "(Z)J"⟩ : MethodName).cls ≠ "java/lang/invoke/MethodHandle" ∧ (⟨"MirrorHeirsModel", "sumOf", "(Z)J"⟩ : MethodName).cls ≠ "java/lang/invoke/VarHandle" ∧ (parseMethodDescriptor (⟨"MirrorHeirsModel", "sumOf", "(Z)J"⟩ : MethodName).desc).map (fun d => d.parameters.length) = some 1 := by decide +kernel
theorem xs_X12_takes0 : Cond.instanceMethod ⟨"MirrorHeirsModel", "takes0", "(I)Z"⟩ ∈ xTs := xt_8 83 rfl rfl
theorem xq_X12_takes0 : Cond.selects "MirrorHeirsModel" ⟨"MirrorHeirsModel", "takes0", "(I)Z"⟩ ⟨"MirrorHeirsModel", "takes0", "(I)Z"⟩ ∈ xTs := xp5 10 rfl
theorem xz_X12_takes0 : Cond.initialized "MirrorHeirsModel" ∈ xTs := xt_1 15 rfl rfl
theorem xe_X12_takes0 : Cond.code ⟨"MirrorHeirsModel", "takes0", "(I)Z"⟩ prog_14_method_46_code 3 (some (.boolean)) ∈ xTs := xt_8 84 rfl rfl
theorem xp_X12_takes0 : (⟨"MirrorHeirsModel", "takes0", "(I)Z"⟩ : MethodName).cls ≠ "java/lang/invoke/MethodHandle" ∧ (⟨"MirrorHeirsModel", "takes0", "(I)Z"⟩ : MethodName).cls ≠ "java/lang/invoke/VarHandle" ∧ (parseMethodDescriptor (⟨"MirrorHeirsModel", "takes0", "(I)Z"⟩ : MethodName).desc).map (fun d => d.parameters.length) = some 1 := by decide +kernel
theorem xs_X12_takesKind : Cond.instanceMethod ⟨"MirrorHeirsModel", "takesKind", "(II)V"⟩ ∈ xTs := xt_7 190 rfl rfl
theorem xq_X12_takesKind : Cond.selects "MirrorHeirsModel" ⟨"MirrorHeirsModel", "takesKind", "(II)V"⟩ ⟨"MirrorHeirsModel", "takesKind", "(II)V"⟩ ∈ xTs := xp4 11 rfl
theorem xz_X12_takesKind : Cond.initialized "MirrorHeirsModel" ∈ xTs := xt_1 15 rfl rfl
theorem xe_X12_takesKind : Cond.code ⟨"MirrorHeirsModel", "takesKind", "(II)V"⟩ prog_14_method_17_code 5 none ∈ xTs := xt_7 191 rfl rfl
theorem xp_X12_takesKind : (⟨"MirrorHeirsModel", "takesKind", "(II)V"⟩ : MethodName).cls ≠ "java/lang/invoke/MethodHandle" ∧ (⟨"MirrorHeirsModel", "takesKind", "(II)V"⟩ : MethodName).cls ≠ "java/lang/invoke/VarHandle" ∧ (parseMethodDescriptor (⟨"MirrorHeirsModel", "takesKind", "(II)V"⟩ : MethodName).desc).map (fun d => d.parameters.length) = some 2 := by decide +kernel
theorem xs_X12_telling : Cond.instanceMethod ⟨"MirrorHeirsModel", "telling", "(III)I"⟩ ∈ xTs := xt_9 51 rfl rfl
theorem xq_X12_telling : Cond.selects "MirrorHeirsModel" ⟨"MirrorHeirsModel", "telling", "(III)I"⟩ ⟨"MirrorHeirsModel", "telling", "(III)I"⟩ ∈ xTs := xt_9 52 rfl rfl
theorem xz_X12_telling : Cond.initialized "MirrorHeirsModel" ∈ xTs := xt_1 15 rfl rfl
theorem xe_X12_telling : Cond.code ⟨"MirrorHeirsModel", "telling", "(III)I"⟩ prog_14_method_101_code 5 (some (.int)) ∈ xTs := xt_9 53 rfl rfl
theorem xp_X12_telling : (⟨"MirrorHeirsModel", "telling", "(III)I"⟩ : MethodName).cls ≠ "java/lang/invoke/MethodHandle" ∧ (⟨"MirrorHeirsModel", "telling", "(III)I"⟩ : MethodName).cls ≠ "java/lang/invoke/VarHandle" ∧ (parseMethodDescriptor (⟨"MirrorHeirsModel", "telling", "(III)I"⟩ : MethodName).desc).map (fun d => d.parameters.length) = some 3 := by decide +kernel
theorem xs_X12_termOf : Cond.instanceMethod ⟨"MirrorHeirsModel", "termOf", "(Z)J"⟩ ∈ xTs := xt_8 170 rfl rfl
theorem xq_X12_termOf : Cond.selects "MirrorHeirsModel" ⟨"MirrorHeirsModel", "termOf", "(Z)J"⟩ ⟨"MirrorHeirsModel", "termOf", "(Z)J"⟩ ∈ xTs := xp6 12 rfl
theorem xz_X12_termOf : Cond.initialized "MirrorHeirsModel" ∈ xTs := xt_1 15 rfl rfl
theorem xe_X12_termOf : Cond.code ⟨"MirrorHeirsModel", "termOf", "(Z)J"⟩ prog_14_method_70_code 7 (some (.long)) ∈ xTs := xt_8 171 rfl rfl
theorem xp_X12_termOf : (⟨"MirrorHeirsModel", "termOf", "(Z)J"⟩ : MethodName).cls ≠ "java/lang/invoke/MethodHandle" ∧ (⟨"MirrorHeirsModel", "termOf", "(Z)J"⟩ : MethodName).cls ≠ "java/lang/invoke/VarHandle" ∧ (parseMethodDescriptor (⟨"MirrorHeirsModel", "termOf", "(Z)J"⟩ : MethodName).desc).map (fun d => d.parameters.length) = some 1 := by decide +kernel
theorem xs_X12_terms : Cond.instanceMethod ⟨"MirrorHeirsModel", "terms", "(II)I"⟩ ∈ xTs := xt_8 27 rfl rfl
theorem xq_X12_terms : Cond.selects "MirrorHeirsModel" ⟨"MirrorHeirsModel", "terms", "(II)I"⟩ ⟨"MirrorHeirsModel", "terms", "(II)I"⟩ ∈ xTs := xt_8 28 rfl rfl
theorem xz_X12_terms : Cond.initialized "MirrorHeirsModel" ∈ xTs := xt_1 15 rfl rfl
theorem xe_X12_terms : Cond.code ⟨"MirrorHeirsModel", "terms", "(II)I"⟩ prog_14_method_35_code 4 (some (.int)) ∈ xTs := xt_8 29 rfl rfl
theorem xp_X12_terms : (⟨"MirrorHeirsModel", "terms", "(II)I"⟩ : MethodName).cls ≠ "java/lang/invoke/MethodHandle" ∧ (⟨"MirrorHeirsModel", "terms", "(II)I"⟩ : MethodName).cls ≠ "java/lang/invoke/VarHandle" ∧ (parseMethodDescriptor (⟨"MirrorHeirsModel", "terms", "(II)I"⟩ : MethodName).desc).map (fun d => d.parameters.length) = some 2 := by decide +kernel
theorem xs_X12_testOf : Cond.instanceMethod ⟨"MirrorHeirsModel", "testOf", "(Z)Z"⟩ ∈ xTs := xt_8 188 rfl rfl
theorem xq_X12_testOf : Cond.selects "MirrorHeirsModel" ⟨"MirrorHeirsModel", "testOf", "(Z)Z"⟩ ⟨"MirrorHeirsModel", "testOf", "(Z)Z"⟩ ∈ xTs := xp7 0 rfl
theorem xz_X12_testOf : Cond.initialized "MirrorHeirsModel" ∈ xTs := xt_1 15 rfl rfl
theorem xe_X12_testOf : Cond.code ⟨"MirrorHeirsModel", "testOf", "(Z)Z"⟩ prog_14_method_72_code 4 (some (.boolean)) ∈ xTs := xt_8 189 rfl rfl
theorem xp_X12_testOf : (⟨"MirrorHeirsModel", "testOf", "(Z)Z"⟩ : MethodName).cls ≠ "java/lang/invoke/MethodHandle" ∧ (⟨"MirrorHeirsModel", "testOf", "(Z)Z"⟩ : MethodName).cls ≠ "java/lang/invoke/VarHandle" ∧ (parseMethodDescriptor (⟨"MirrorHeirsModel", "testOf", "(Z)Z"⟩ : MethodName).desc).map (fun d => d.parameters.length) = some 1 := by decide +kernel
theorem xs_X12_thing : Cond.instanceMethod ⟨"MirrorHeirsModel", "thing", "(III)I"⟩ ∈ xTs := xt_8 19 rfl rfl
theorem xq_X12_thing : Cond.selects "MirrorHeirsModel" ⟨"MirrorHeirsModel", "thing", "(III)I"⟩ ⟨"MirrorHeirsModel", "thing", "(III)I"⟩ ∈ xTs := xt_8 20 rfl rfl
theorem xz_X12_thing : Cond.initialized "MirrorHeirsModel" ∈ xTs := xt_1 15 rfl rfl
theorem xe_X12_thing : Cond.code ⟨"MirrorHeirsModel", "thing", "(III)I"⟩ prog_14_method_33_code 5 (some (.int)) ∈ xTs := xt_8 21 rfl rfl
theorem xp_X12_thing : (⟨"MirrorHeirsModel", "thing", "(III)I"⟩ : MethodName).cls ≠ "java/lang/invoke/MethodHandle" ∧ (⟨"MirrorHeirsModel", "thing", "(III)I"⟩ : MethodName).cls ≠ "java/lang/invoke/VarHandle" ∧ (parseMethodDescriptor (⟨"MirrorHeirsModel", "thing", "(III)I"⟩ : MethodName).desc).map (fun d => d.parameters.length) = some 3 := by decide +kernel
theorem xs_X12_thingAt : Cond.instanceMethod ⟨"MirrorHeirsModel", "thingAt", "(I)I"⟩ ∈ xTs := xt_7 202 rfl rfl
theorem xq_X12_thingAt : Cond.selects "MirrorHeirsModel" ⟨"MirrorHeirsModel", "thingAt", "(I)I"⟩ ⟨"MirrorHeirsModel", "thingAt", "(I)I"⟩ ∈ xTs := xp4 13 rfl
theorem xz_X12_thingAt : Cond.initialized "MirrorHeirsModel" ∈ xTs := xt_1 15 rfl rfl
theorem xe_X12_thingAt : Cond.code ⟨"MirrorHeirsModel", "thingAt", "(I)I"⟩ prog_14_method_16_code 2 (some (.int)) ∈ xTs := xt_7 203 rfl rfl
theorem xp_X12_thingAt : (⟨"MirrorHeirsModel", "thingAt", "(I)I"⟩ : MethodName).cls ≠ "java/lang/invoke/MethodHandle" ∧ (⟨"MirrorHeirsModel", "thingAt", "(I)I"⟩ : MethodName).cls ≠ "java/lang/invoke/VarHandle" ∧ (parseMethodDescriptor (⟨"MirrorHeirsModel", "thingAt", "(I)I"⟩ : MethodName).desc).map (fun d => d.parameters.length) = some 1 := by decide +kernel
theorem xs_X12_told : Cond.instanceMethod ⟨"MirrorHeirsModel", "told", "(III)I"⟩ ∈ xTs := xt_8 158 rfl rfl
theorem xq_X12_told : Cond.selects "MirrorHeirsModel" ⟨"MirrorHeirsModel", "told", "(III)I"⟩ ⟨"MirrorHeirsModel", "told", "(III)I"⟩ ∈ xTs := xp6 9 rfl
theorem xz_X12_told : Cond.initialized "MirrorHeirsModel" ∈ xTs := xt_1 15 rfl rfl
theorem xe_X12_told : Cond.code ⟨"MirrorHeirsModel", "told", "(III)I"⟩ prog_14_method_76_code 11 (some (.int)) ∈ xTs := xt_8 159 rfl rfl
theorem xp_X12_told : (⟨"MirrorHeirsModel", "told", "(III)I"⟩ : MethodName).cls ≠ "java/lang/invoke/MethodHandle" ∧ (⟨"MirrorHeirsModel", "told", "(III)I"⟩ : MethodName).cls ≠ "java/lang/invoke/VarHandle" ∧ (parseMethodDescriptor (⟨"MirrorHeirsModel", "told", "(III)I"⟩ : MethodName).desc).map (fun d => d.parameters.length) = some 3 := by decide +kernel
theorem xs_X12_turn : Cond.instanceMethod ⟨"MirrorHeirsModel", "turn", "(I)I"⟩ ∈ xTs := xt_7 220 rfl rfl
theorem xq_X12_turn : Cond.selects "MirrorHeirsModel" ⟨"MirrorHeirsModel", "turn", "(I)I"⟩ ⟨"MirrorHeirsModel", "turn", "(I)I"⟩ ∈ xTs := xt_7 221 rfl rfl
theorem xz_X12_turn : Cond.initialized "MirrorHeirsModel" ∈ xTs := xt_1 15 rfl rfl
theorem xe_X12_turn : Cond.code ⟨"MirrorHeirsModel", "turn", "(I)I"⟩ prog_14_method_26_code 2 (some (.int)) ∈ xTs := xt_7 222 rfl rfl
theorem xp_X12_turn : (⟨"MirrorHeirsModel", "turn", "(I)I"⟩ : MethodName).cls ≠ "java/lang/invoke/MethodHandle" ∧ (⟨"MirrorHeirsModel", "turn", "(I)I"⟩ : MethodName).cls ≠ "java/lang/invoke/VarHandle" ∧ (parseMethodDescriptor (⟨"MirrorHeirsModel", "turn", "(I)I"⟩ : MethodName).desc).map (fun d => d.parameters.length) = some 1 := by decide +kernel
theorem xs_X12_turned : Cond.instanceMethod ⟨"MirrorHeirsModel", "turned", "(I)I"⟩ ∈ xTs := xt_9 55 rfl rfl
theorem xq_X12_turned : Cond.selects "MirrorHeirsModel" ⟨"MirrorHeirsModel", "turned", "(I)I"⟩ ⟨"MirrorHeirsModel", "turned", "(I)I"⟩ ∈ xTs := xt_9 56 rfl rfl
theorem xz_X12_turned : Cond.initialized "MirrorHeirsModel" ∈ xTs := xt_1 15 rfl rfl
theorem xe_X12_turned : Cond.code ⟨"MirrorHeirsModel", "turned", "(I)I"⟩ prog_14_method_104_code 6 (some (.int)) ∈ xTs := xt_9 57 rfl rfl
theorem xp_X12_turned : (⟨"MirrorHeirsModel", "turned", "(I)I"⟩ : MethodName).cls ≠ "java/lang/invoke/MethodHandle" ∧ (⟨"MirrorHeirsModel", "turned", "(I)I"⟩ : MethodName).cls ≠ "java/lang/invoke/VarHandle" ∧ (parseMethodDescriptor (⟨"MirrorHeirsModel", "turned", "(I)I"⟩ : MethodName).desc).map (fun d => d.parameters.length) = some 1 := by decide +kernel
theorem xs_X12_turns : Cond.instanceMethod ⟨"MirrorHeirsModel", "turns", "(I)V"⟩ ∈ xTs := xt_7 233 rfl rfl
theorem xq_X12_turns : Cond.selects "MirrorHeirsModel" ⟨"MirrorHeirsModel", "turns", "(I)V"⟩ ⟨"MirrorHeirsModel", "turns", "(I)V"⟩ ∈ xTs := xp5 1 rfl
theorem xz_X12_turns : Cond.initialized "MirrorHeirsModel" ∈ xTs := xt_1 15 rfl rfl
theorem xe_X12_turns : Cond.code ⟨"MirrorHeirsModel", "turns", "(I)V"⟩ prog_14_method_25_code 2 none ∈ xTs := xt_7 234 rfl rfl
theorem xp_X12_turns : (⟨"MirrorHeirsModel", "turns", "(I)V"⟩ : MethodName).cls ≠ "java/lang/invoke/MethodHandle" ∧ (⟨"MirrorHeirsModel", "turns", "(I)V"⟩ : MethodName).cls ≠ "java/lang/invoke/VarHandle" ∧ (parseMethodDescriptor (⟨"MirrorHeirsModel", "turns", "(I)V"⟩ : MethodName).desc).map (fun d => d.parameters.length) = some 1 := by decide +kernel
theorem xs_X12_turnsKept : Cond.instanceMethod ⟨"MirrorHeirsModel", "turnsKept", "(I)V"⟩ ∈ xTs := xt_7 225 rfl rfl
theorem xq_X12_turnsKept : Cond.selects "MirrorHeirsModel" ⟨"MirrorHeirsModel", "turnsKept", "(I)V"⟩ ⟨"MirrorHeirsModel", "turnsKept", "(I)V"⟩ ∈ xTs := xp4 15 rfl
theorem xz_X12_turnsKept : Cond.initialized "MirrorHeirsModel" ∈ xTs := xt_1 15 rfl rfl
theorem xe_X12_turnsKept : Cond.code ⟨"MirrorHeirsModel", "turnsKept", "(I)V"⟩ prog_14_method_30_code 2 none ∈ xTs := xt_7 226 rfl rfl
theorem xp_X12_turnsKept : (⟨"MirrorHeirsModel", "turnsKept", "(I)V"⟩ : MethodName).cls ≠ "java/lang/invoke/MethodHandle" ∧ (⟨"MirrorHeirsModel", "turnsKept", "(I)V"⟩ : MethodName).cls ≠ "java/lang/invoke/VarHandle" ∧ (parseMethodDescriptor (⟨"MirrorHeirsModel", "turnsKept", "(I)V"⟩ : MethodName).desc).map (fun d => d.parameters.length) = some 1 := by decide +kernel
theorem xs_X12_turnsSet : Cond.instanceMethod ⟨"MirrorHeirsModel", "turnsSet", "(I)V"⟩ ∈ xTs := xt_9 60 rfl rfl
theorem xq_X12_turnsSet : Cond.selects "MirrorHeirsModel" ⟨"MirrorHeirsModel", "turnsSet", "(I)V"⟩ ⟨"MirrorHeirsModel", "turnsSet", "(I)V"⟩ ∈ xTs := xp7 15 rfl
theorem xz_X12_turnsSet : Cond.initialized "MirrorHeirsModel" ∈ xTs := xt_1 15 rfl rfl
theorem xe_X12_turnsSet : Cond.code ⟨"MirrorHeirsModel", "turnsSet", "(I)V"⟩ prog_14_method_102_code 3 none ∈ xTs := xt_9 61 rfl rfl
theorem xp_X12_turnsSet : (⟨"MirrorHeirsModel", "turnsSet", "(I)V"⟩ : MethodName).cls ≠ "java/lang/invoke/MethodHandle" ∧ (⟨"MirrorHeirsModel", "turnsSet", "(I)V"⟩ : MethodName).cls ≠ "java/lang/invoke/VarHandle" ∧ (parseMethodDescriptor (⟨"MirrorHeirsModel", "turnsSet", "(I)V"⟩ : MethodName).desc).map (fun d => d.parameters.length) = some 1 := by decide +kernel
theorem xs_X12_turnsThen : Cond.instanceMethod ⟨"MirrorHeirsModel", "turnsThen", "(II)I"⟩ ∈ xTs := xt_9 110 rfl rfl
theorem xq_X12_turnsThen : Cond.selects "MirrorHeirsModel" ⟨"MirrorHeirsModel", "turnsThen", "(II)I"⟩ ⟨"MirrorHeirsModel", "turnsThen", "(II)I"⟩ ∈ xTs := xp8 3 rfl
theorem xz_X12_turnsThen : Cond.initialized "MirrorHeirsModel" ∈ xTs := xt_1 15 rfl rfl
theorem xe_X12_turnsThen : Cond.code ⟨"MirrorHeirsModel", "turnsThen", "(II)I"⟩ prog_14_method_113_code 7 (some (.int)) ∈ xTs := xt_9 111 rfl rfl
theorem xp_X12_turnsThen : (⟨"MirrorHeirsModel", "turnsThen", "(II)I"⟩ : MethodName).cls ≠ "java/lang/invoke/MethodHandle" ∧ (⟨"MirrorHeirsModel", "turnsThen", "(II)I"⟩ : MethodName).cls ≠ "java/lang/invoke/VarHandle" ∧ (parseMethodDescriptor (⟨"MirrorHeirsModel", "turnsThen", "(II)I"⟩ : MethodName).desc).map (fun d => d.parameters.length) = some 2 := by decide +kernel
theorem xs_X12_undo : Cond.instanceMethod ⟨"MirrorHeirsModel", "undo", "()I"⟩ ∈ xTs := xt_8 15 rfl rfl
theorem xq_X12_undo : Cond.selects "MirrorHeirsModel" ⟨"MirrorHeirsModel", "undo", "()I"⟩ ⟨"MirrorHeirsModel", "undo", "()I"⟩ ∈ xTs := xt_8 16 rfl rfl
theorem xz_X12_undo : Cond.initialized "MirrorHeirsModel" ∈ xTs := xt_1 15 rfl rfl
theorem xe_X12_undo : Cond.code ⟨"MirrorHeirsModel", "undo", "()I"⟩ prog_14_method_32_code 3 (some (.int)) ∈ xTs := xt_8 17 rfl rfl
theorem xp_X12_undo : (⟨"MirrorHeirsModel", "undo", "()I"⟩ : MethodName).cls ≠ "java/lang/invoke/MethodHandle" ∧ (⟨"MirrorHeirsModel", "undo", "()I"⟩ : MethodName).cls ≠ "java/lang/invoke/VarHandle" ∧ (parseMethodDescriptor (⟨"MirrorHeirsModel", "undo", "()I"⟩ : MethodName).desc).map (fun d => d.parameters.length) = some 0 := by decide +kernel
theorem xs_X12_views : Cond.instanceMethod ⟨"MirrorHeirsModel", "views", "(I)I"⟩ ∈ xTs := xt_8 228 rfl rfl
theorem xq_X12_views : Cond.selects "MirrorHeirsModel" ⟨"MirrorHeirsModel", "views", "(I)I"⟩ ⟨"MirrorHeirsModel", "views", "(I)I"⟩ ∈ xTs := xt_8 229 rfl rfl
theorem xz_X12_views : Cond.initialized "MirrorHeirsModel" ∈ xTs := xt_1 15 rfl rfl
theorem xe_X12_views : Cond.code ⟨"MirrorHeirsModel", "views", "(I)I"⟩ prog_14_method_87_code 2 (some (.int)) ∈ xTs := xt_8 230 rfl rfl
theorem xp_X12_views : (⟨"MirrorHeirsModel", "views", "(I)I"⟩ : MethodName).cls ≠ "java/lang/invoke/MethodHandle" ∧ (⟨"MirrorHeirsModel", "views", "(I)I"⟩ : MethodName).cls ≠ "java/lang/invoke/VarHandle" ∧ (parseMethodDescriptor (⟨"MirrorHeirsModel", "views", "(I)I"⟩ : MethodName).desc).map (fun d => d.parameters.length) = some 1 := by decide +kernel
theorem xs_X12_viewsFrom : Cond.instanceMethod ⟨"MirrorHeirsModel", "viewsFrom", "(I)I"⟩ ∈ xTs := xt_8 233 rfl rfl
theorem xq_X12_viewsFrom : Cond.selects "MirrorHeirsModel" ⟨"MirrorHeirsModel", "viewsFrom", "(I)I"⟩ ⟨"MirrorHeirsModel", "viewsFrom", "(I)I"⟩ ∈ xTs := xp7 7 rfl
theorem xz_X12_viewsFrom : Cond.initialized "MirrorHeirsModel" ∈ xTs := xt_1 15 rfl rfl
theorem xe_X12_viewsFrom : Cond.code ⟨"MirrorHeirsModel", "viewsFrom", "(I)I"⟩ prog_14_method_86_code 4 (some (.int)) ∈ xTs := xt_8 234 rfl rfl
theorem xp_X12_viewsFrom : (⟨"MirrorHeirsModel", "viewsFrom", "(I)I"⟩ : MethodName).cls ≠ "java/lang/invoke/MethodHandle" ∧ (⟨"MirrorHeirsModel", "viewsFrom", "(I)I"⟩ : MethodName).cls ≠ "java/lang/invoke/VarHandle" ∧ (parseMethodDescriptor (⟨"MirrorHeirsModel", "viewsFrom", "(I)I"⟩ : MethodName).desc).map (fun d => d.parameters.length) = some 1 := by decide +kernel
theorem xs_X12_wordOf : Cond.instanceMethod ⟨"MirrorHeirsModel", "wordOf", "(II)I"⟩ ∈ xTs := xt_8 70 rfl rfl
theorem xq_X12_wordOf : Cond.selects "MirrorHeirsModel" ⟨"MirrorHeirsModel", "wordOf", "(II)I"⟩ ⟨"MirrorHeirsModel", "wordOf", "(II)I"⟩ ∈ xTs := xp5 7 rfl
theorem xz_X12_wordOf : Cond.initialized "MirrorHeirsModel" ∈ xTs := xt_1 15 rfl rfl
theorem xe_X12_wordOf : Cond.code ⟨"MirrorHeirsModel", "wordOf", "(II)I"⟩ prog_14_method_42_code 8 (some (.int)) ∈ xTs := xt_8 71 rfl rfl
theorem xp_X12_wordOf : (⟨"MirrorHeirsModel", "wordOf", "(II)I"⟩ : MethodName).cls ≠ "java/lang/invoke/MethodHandle" ∧ (⟨"MirrorHeirsModel", "wordOf", "(II)I"⟩ : MethodName).cls ≠ "java/lang/invoke/VarHandle" ∧ (parseMethodDescriptor (⟨"MirrorHeirsModel", "wordOf", "(II)I"⟩ : MethodName).desc).map (fun d => d.parameters.length) = some 2 := by decide +kernel
theorem xs_X1_addLaw : Cond.instanceMethod ⟨"MirrorHeirs$Hall", "addLaw", "(LMirrorHeirs$Text;)I"⟩ ∈ xTs := xt_4 169 rfl rfl
theorem xq_X1_addLaw : Cond.selects "MirrorHeirs$Hall" ⟨"MirrorHeirs$Hall", "addLaw", "(LMirrorHeirs$Text;)I"⟩ ⟨"MirrorHeirs$Hall", "addLaw", "(LMirrorHeirs$Text;)I"⟩ ∈ xTs := xt_4 170 rfl rfl
theorem xz_X1_addLaw : Cond.initialized "MirrorHeirs$Hall" ∈ xTs := xt_1 2 rfl rfl
theorem xe_X1_addLaw : Cond.code ⟨"MirrorHeirs$Hall", "addLaw", "(LMirrorHeirs$Text;)I"⟩ prog_3_method_10_code 2 (some (.int)) ∈ xTs := xt_4 171 rfl rfl
theorem xp_X1_addLaw : (⟨"MirrorHeirs$Hall", "addLaw", "(LMirrorHeirs$Text;)I"⟩ : MethodName).cls ≠ "java/lang/invoke/MethodHandle" ∧ (⟨"MirrorHeirs$Hall", "addLaw", "(LMirrorHeirs$Text;)I"⟩ : MethodName).cls ≠ "java/lang/invoke/VarHandle" ∧ (parseMethodDescriptor (⟨"MirrorHeirs$Hall", "addLaw", "(LMirrorHeirs$Text;)I"⟩ : MethodName).desc).map (fun d => d.parameters.length) = some 1 := by decide +kernel
theorem xs_X1_copy : Cond.instanceMethod ⟨"MirrorHeirs$Hall", "copy", "(LMirrorHeirs$Hall;)V"⟩ ∈ xTs := xt_4 195 rfl rfl
theorem xq_X1_copy : Cond.selects "MirrorHeirs$Hall" ⟨"MirrorHeirs$Hall", "copy", "(LMirrorHeirs$Hall;)V"⟩ ⟨"MirrorHeirs$Hall", "copy", "(LMirrorHeirs$Hall;)V"⟩ ∈ xTs := xt_4 196 rfl rfl
theorem xz_X1_copy : Cond.initialized "MirrorHeirs$Hall" ∈ xTs := xt_1 2 rfl rfl
theorem xe_X1_copy : Cond.code ⟨"MirrorHeirs$Hall", "copy", "(LMirrorHeirs$Hall;)V"⟩ prog_3_method_12_code 3 none ∈ xTs := xt_4 197 rfl rfl
theorem xp_X1_copy : (⟨"MirrorHeirs$Hall", "copy", "(LMirrorHeirs$Hall;)V"⟩ : MethodName).cls ≠ "java/lang/invoke/MethodHandle" ∧ (⟨"MirrorHeirs$Hall", "copy", "(LMirrorHeirs$Hall;)V"⟩ : MethodName).cls ≠ "java/lang/invoke/VarHandle" ∧ (parseMethodDescriptor (⟨"MirrorHeirs$Hall", "copy", "(LMirrorHeirs$Hall;)V"⟩ : MethodName).desc).map (fun d => d.parameters.length) = some 1 := by decide +kernel
theorem xs_X1_flip : Cond.instanceMethod ⟨"MirrorHeirs$Hall", "flip", "(I)V"⟩ ∈ xTs := xt_3 121 rfl rfl
theorem xq_X1_flip : Cond.selects "MirrorHeirs$Hall" ⟨"MirrorHeirs$Hall", "flip", "(I)V"⟩ ⟨"MirrorHeirs$Hall", "flip", "(I)V"⟩ ∈ xTs := xt_3 122 rfl rfl
theorem xz_X1_flip : Cond.initialized "MirrorHeirs$Hall" ∈ xTs := xt_1 2 rfl rfl
theorem xe_X1_flip : Cond.code ⟨"MirrorHeirs$Hall", "flip", "(I)V"⟩ prog_3_method_6_code 3 none ∈ xTs := xt_3 123 rfl rfl
theorem xp_X1_flip : (⟨"MirrorHeirs$Hall", "flip", "(I)V"⟩ : MethodName).cls ≠ "java/lang/invoke/MethodHandle" ∧ (⟨"MirrorHeirs$Hall", "flip", "(I)V"⟩ : MethodName).cls ≠ "java/lang/invoke/VarHandle" ∧ (parseMethodDescriptor (⟨"MirrorHeirs$Hall", "flip", "(I)V"⟩ : MethodName).desc).map (fun d => d.parameters.length) = some 1 := by decide +kernel
theorem xs_X1_flipAll : Cond.instanceMethod ⟨"MirrorHeirs$Hall", "flipAll", "(I)V"⟩ ∈ xTs := xt_6 13 rfl rfl
theorem xq_X1_flipAll : Cond.selects "MirrorHeirs$Hall" ⟨"MirrorHeirs$Hall", "flipAll", "(I)V"⟩ ⟨"MirrorHeirs$Hall", "flipAll", "(I)V"⟩ ∈ xTs := xt_6 14 rfl rfl
theorem xz_X1_flipAll : Cond.initialized "MirrorHeirs$Hall" ∈ xTs := xt_1 2 rfl rfl
theorem xe_X1_flipAll : Cond.code ⟨"MirrorHeirs$Hall", "flipAll", "(I)V"⟩ prog_3_method_7_code 3 none ∈ xTs := xt_6 15 rfl rfl
theorem xp_X1_flipAll : (⟨"MirrorHeirs$Hall", "flipAll", "(I)V"⟩ : MethodName).cls ≠ "java/lang/invoke/MethodHandle" ∧ (⟨"MirrorHeirs$Hall", "flipAll", "(I)V"⟩ : MethodName).cls ≠ "java/lang/invoke/VarHandle" ∧ (parseMethodDescriptor (⟨"MirrorHeirs$Hall", "flipAll", "(I)V"⟩ : MethodName).desc).map (fun d => d.parameters.length) = some 1 := by decide +kernel
theorem xs_X1_init : Cond.instanceMethod ⟨"MirrorHeirs$Hall", "<init>", "()V"⟩ ∈ xTs := xt_1 33 rfl rfl
theorem xz_X1_init : Cond.initialized "MirrorHeirs$Hall" ∈ xTs := xt_1 2 rfl rfl
theorem xe_X1_init : Cond.code ⟨"MirrorHeirs$Hall", "<init>", "()V"⟩ prog_3_method_1_code 1 none ∈ xTs := xt_1 34 rfl rfl
theorem xp_X1_init : (⟨"MirrorHeirs$Hall", "<init>", "()V"⟩ : MethodName).cls ≠ "java/lang/invoke/MethodHandle" ∧ (⟨"MirrorHeirs$Hall", "<init>", "()V"⟩ : MethodName).cls ≠ "java/lang/invoke/VarHandle" ∧ (parseMethodDescriptor (⟨"MirrorHeirs$Hall", "<init>", "()V"⟩ : MethodName).desc).map (fun d => d.parameters.length) = some 0 := by decide +kernel
theorem xs_X1_kindAt : Cond.instanceMethod ⟨"MirrorHeirs$Hall", "kindAt", "(I)I"⟩ ∈ xTs := xt_3 48 rfl rfl
theorem xq_X1_kindAt : Cond.selects "MirrorHeirs$Hall" ⟨"MirrorHeirs$Hall", "kindAt", "(I)I"⟩ ⟨"MirrorHeirs$Hall", "kindAt", "(I)I"⟩ ∈ xTs := xt_3 49 rfl rfl
theorem xz_X1_kindAt : Cond.initialized "MirrorHeirs$Hall" ∈ xTs := xt_1 2 rfl rfl
theorem xe_X1_kindAt : Cond.code ⟨"MirrorHeirs$Hall", "kindAt", "(I)I"⟩ prog_3_method_2_code 2 (some (.int)) ∈ xTs := xt_3 50 rfl rfl
theorem xp_X1_kindAt : (⟨"MirrorHeirs$Hall", "kindAt", "(I)I"⟩ : MethodName).cls ≠ "java/lang/invoke/MethodHandle" ∧ (⟨"MirrorHeirs$Hall", "kindAt", "(I)I"⟩ : MethodName).cls ≠ "java/lang/invoke/VarHandle" ∧ (parseMethodDescriptor (⟨"MirrorHeirs$Hall", "kindAt", "(I)I"⟩ : MethodName).desc).map (fun d => d.parameters.length) = some 1 := by decide +kernel
theorem xs_X1_lawInForce : Cond.instanceMethod ⟨"MirrorHeirs$Hall", "lawInForce", "()LMirrorHeirs$Text;"⟩ ∈ xTs := xt_4 227 rfl rfl
theorem xq_X1_lawInForce : Cond.selects "MirrorHeirs$Hall" ⟨"MirrorHeirs$Hall", "lawInForce", "()LMirrorHeirs$Text;"⟩ ⟨"MirrorHeirs$Hall", "lawInForce", "()LMirrorHeirs$Text;"⟩ ∈ xTs := xt_4 228 rfl rfl
theorem xz_X1_lawInForce : Cond.initialized "MirrorHeirs$Hall" ∈ xTs := xt_1 2 rfl rfl
theorem xe_X1_lawInForce : Cond.code ⟨"MirrorHeirs$Hall", "lawInForce", "()LMirrorHeirs$Text;"⟩ prog_3_method_11_code 1 (some (.object "MirrorHeirs$Text")) ∈ xTs := xt_4 229 rfl rfl
theorem xp_X1_lawInForce : (⟨"MirrorHeirs$Hall", "lawInForce", "()LMirrorHeirs$Text;"⟩ : MethodName).cls ≠ "java/lang/invoke/MethodHandle" ∧ (⟨"MirrorHeirs$Hall", "lawInForce", "()LMirrorHeirs$Text;"⟩ : MethodName).cls ≠ "java/lang/invoke/VarHandle" ∧ (parseMethodDescriptor (⟨"MirrorHeirs$Hall", "lawInForce", "()LMirrorHeirs$Text;"⟩ : MethodName).desc).map (fun d => d.parameters.length) = some 0 := by decide +kernel
theorem xs_X1_lay : Cond.instanceMethod ⟨"MirrorHeirs$Hall", "lay", "(II)V"⟩ ∈ xTs := xt_3 52 rfl rfl
theorem xq_X1_lay : Cond.selects "MirrorHeirs$Hall" ⟨"MirrorHeirs$Hall", "lay", "(II)V"⟩ ⟨"MirrorHeirs$Hall", "lay", "(II)V"⟩ ∈ xTs := xt_3 53 rfl rfl
theorem xz_X1_lay : Cond.initialized "MirrorHeirs$Hall" ∈ xTs := xt_1 2 rfl rfl
theorem xe_X1_lay : Cond.code ⟨"MirrorHeirs$Hall", "lay", "(II)V"⟩ prog_3_method_5_code 3 none ∈ xTs := xt_3 54 rfl rfl
theorem xp_X1_lay : (⟨"MirrorHeirs$Hall", "lay", "(II)V"⟩ : MethodName).cls ≠ "java/lang/invoke/MethodHandle" ∧ (⟨"MirrorHeirs$Hall", "lay", "(II)V"⟩ : MethodName).cls ≠ "java/lang/invoke/VarHandle" ∧ (parseMethodDescriptor (⟨"MirrorHeirs$Hall", "lay", "(II)V"⟩ : MethodName).desc).map (fun d => d.parameters.length) = some 2 := by decide +kernel
theorem xs_X1_mayLay : Cond.instanceMethod ⟨"MirrorHeirs$Hall", "mayLay", "(II)Z"⟩ ∈ xTs := xt_3 36 rfl rfl
theorem xq_X1_mayLay : Cond.selects "MirrorHeirs$Hall" ⟨"MirrorHeirs$Hall", "mayLay", "(II)Z"⟩ ⟨"MirrorHeirs$Hall", "mayLay", "(II)Z"⟩ ∈ xTs := xt_3 37 rfl rfl
theorem xz_X1_mayLay : Cond.initialized "MirrorHeirs$Hall" ∈ xTs := xt_1 2 rfl rfl
theorem xe_X1_mayLay : Cond.code ⟨"MirrorHeirs$Hall", "mayLay", "(II)Z"⟩ prog_3_method_4_code 3 (some (.boolean)) ∈ xTs := xt_3 38 rfl rfl
theorem xp_X1_mayLay : (⟨"MirrorHeirs$Hall", "mayLay", "(II)Z"⟩ : MethodName).cls ≠ "java/lang/invoke/MethodHandle" ∧ (⟨"MirrorHeirs$Hall", "mayLay", "(II)Z"⟩ : MethodName).cls ≠ "java/lang/invoke/VarHandle" ∧ (parseMethodDescriptor (⟨"MirrorHeirs$Hall", "mayLay", "(II)Z"⟩ : MethodName).desc).map (fun d => d.parameters.length) = some 2 := by decide +kernel
theorem xs_X1_setKind : Cond.instanceMethod ⟨"MirrorHeirs$Hall", "setKind", "(II)V"⟩ ∈ xTs := xt_3 56 rfl rfl
theorem xq_X1_setKind : Cond.selects "MirrorHeirs$Hall" ⟨"MirrorHeirs$Hall", "setKind", "(II)V"⟩ ⟨"MirrorHeirs$Hall", "setKind", "(II)V"⟩ ∈ xTs := xt_3 57 rfl rfl
theorem xz_X1_setKind : Cond.initialized "MirrorHeirs$Hall" ∈ xTs := xt_1 2 rfl rfl
theorem xe_X1_setKind : Cond.code ⟨"MirrorHeirs$Hall", "setKind", "(II)V"⟩ prog_3_method_3_code 3 none ∈ xTs := xt_3 58 rfl rfl
theorem xp_X1_setKind : (⟨"MirrorHeirs$Hall", "setKind", "(II)V"⟩ : MethodName).cls ≠ "java/lang/invoke/MethodHandle" ∧ (⟨"MirrorHeirs$Hall", "setKind", "(II)V"⟩ : MethodName).cls ≠ "java/lang/invoke/VarHandle" ∧ (parseMethodDescriptor (⟨"MirrorHeirs$Hall", "setKind", "(II)V"⟩ : MethodName).desc).map (fun d => d.parameters.length) = some 2 := by decide +kernel
theorem xs_X1_setTerm : Cond.instanceMethod ⟨"MirrorHeirs$Hall", "setTerm", "(II)V"⟩ ∈ xTs := xt_3 178 rfl rfl
theorem xq_X1_setTerm : Cond.selects "MirrorHeirs$Hall" ⟨"MirrorHeirs$Hall", "setTerm", "(II)V"⟩ ⟨"MirrorHeirs$Hall", "setTerm", "(II)V"⟩ ∈ xTs := xt_3 179 rfl rfl
theorem xz_X1_setTerm : Cond.initialized "MirrorHeirs$Hall" ∈ xTs := xt_1 2 rfl rfl
theorem xe_X1_setTerm : Cond.code ⟨"MirrorHeirs$Hall", "setTerm", "(II)V"⟩ prog_3_method_9_code 3 none ∈ xTs := xt_3 180 rfl rfl
theorem xp_X1_setTerm : (⟨"MirrorHeirs$Hall", "setTerm", "(II)V"⟩ : MethodName).cls ≠ "java/lang/invoke/MethodHandle" ∧ (⟨"MirrorHeirs$Hall", "setTerm", "(II)V"⟩ : MethodName).cls ≠ "java/lang/invoke/VarHandle" ∧ (parseMethodDescriptor (⟨"MirrorHeirs$Hall", "setTerm", "(II)V"⟩ : MethodName).desc).map (fun d => d.parameters.length) = some 2 := by decide +kernel
theorem xs_X1_term : Cond.instanceMethod ⟨"MirrorHeirs$Hall", "term", "(I)I"⟩ ∈ xTs := xt_3 174 rfl rfl
theorem xq_X1_term : Cond.selects "MirrorHeirs$Hall" ⟨"MirrorHeirs$Hall", "term", "(I)I"⟩ ⟨"MirrorHeirs$Hall", "term", "(I)I"⟩ ∈ xTs := xt_3 175 rfl rfl
theorem xz_X1_term : Cond.initialized "MirrorHeirs$Hall" ∈ xTs := xt_1 2 rfl rfl
theorem xe_X1_term : Cond.code ⟨"MirrorHeirs$Hall", "term", "(I)I"⟩ prog_3_method_8_code 2 (some (.int)) ∈ xTs := xt_3 176 rfl rfl
theorem xp_X1_term : (⟨"MirrorHeirs$Hall", "term", "(I)I"⟩ : MethodName).cls ≠ "java/lang/invoke/MethodHandle" ∧ (⟨"MirrorHeirs$Hall", "term", "(I)I"⟩ : MethodName).cls ≠ "java/lang/invoke/VarHandle" ∧ (parseMethodDescriptor (⟨"MirrorHeirs$Hall", "term", "(I)I"⟩ : MethodName).desc).map (fun d => d.parameters.length) = some 1 := by decide +kernel
theorem xs_X2_cover : Cond.instanceMethod ⟨"MirrorHeirs$Places", "cover", "(IIJJ)V"⟩ ∈ xTs := xt_5 208 rfl rfl
theorem xq_X2_cover : Cond.selects "MirrorHeirs$Places" ⟨"MirrorHeirs$Places", "cover", "(IIJJ)V"⟩ ⟨"MirrorHeirs$Places", "cover", "(IIJJ)V"⟩ ∈ xTs := xp3 7 rfl
theorem xz_X2_cover : Cond.initialized "MirrorHeirs$Places" ∈ xTs := xt_1 12 rfl rfl
theorem xe_X2_cover : Cond.code ⟨"MirrorHeirs$Places", "cover", "(IIJJ)V"⟩ prog_4_method_4_code 10 none ∈ xTs := xt_5 209 rfl rfl
theorem xp_X2_cover : (⟨"MirrorHeirs$Places", "cover", "(IIJJ)V"⟩ : MethodName).cls ≠ "java/lang/invoke/MethodHandle" ∧ (⟨"MirrorHeirs$Places", "cover", "(IIJJ)V"⟩ : MethodName).cls ≠ "java/lang/invoke/VarHandle" ∧ (parseMethodDescriptor (⟨"MirrorHeirs$Places", "cover", "(IIJJ)V"⟩ : MethodName).desc).map (fun d => d.parameters.length) = some 4 := by decide +kernel
theorem xs_X2_coverAll : Cond.instanceMethod ⟨"MirrorHeirs$Places", "coverAll", "(I)V"⟩ ∈ xTs := xt_5 196 rfl rfl
theorem xq_X2_coverAll : Cond.selects "MirrorHeirs$Places" ⟨"MirrorHeirs$Places", "coverAll", "(I)V"⟩ ⟨"MirrorHeirs$Places", "coverAll", "(I)V"⟩ ∈ xTs := xt_5 197 rfl rfl
theorem xz_X2_coverAll : Cond.initialized "MirrorHeirs$Places" ∈ xTs := xt_1 12 rfl rfl
theorem xe_X2_coverAll : Cond.code ⟨"MirrorHeirs$Places", "coverAll", "(I)V"⟩ prog_4_method_2_code 3 none ∈ xTs := xt_5 198 rfl rfl
theorem xp_X2_coverAll : (⟨"MirrorHeirs$Places", "coverAll", "(I)V"⟩ : MethodName).cls ≠ "java/lang/invoke/MethodHandle" ∧ (⟨"MirrorHeirs$Places", "coverAll", "(I)V"⟩ : MethodName).cls ≠ "java/lang/invoke/VarHandle" ∧ (parseMethodDescriptor (⟨"MirrorHeirs$Places", "coverAll", "(I)V"⟩ : MethodName).desc).map (fun d => d.parameters.length) = some 1 := by decide +kernel
theorem xs_X2_firstCell : Cond.instanceMethod ⟨"MirrorHeirs$Places", "firstCell", "(I)I"⟩ ∈ xTs := xt_5 221 rfl rfl
theorem xq_X2_firstCell : Cond.selects "MirrorHeirs$Places" ⟨"MirrorHeirs$Places", "firstCell", "(I)I"⟩ ⟨"MirrorHeirs$Places", "firstCell", "(I)I"⟩ ∈ xTs := xt_5 222 rfl rfl
theorem xz_X2_firstCell : Cond.initialized "MirrorHeirs$Places" ∈ xTs := xt_1 12 rfl rfl
theorem xe_X2_firstCell : Cond.code ⟨"MirrorHeirs$Places", "firstCell", "(I)I"⟩ prog_4_method_6_code 2 (some (.int)) ∈ xTs := xt_5 223 rfl rfl
theorem xp_X2_firstCell : (⟨"MirrorHeirs$Places", "firstCell", "(I)I"⟩ : MethodName).cls ≠ "java/lang/invoke/MethodHandle" ∧ (⟨"MirrorHeirs$Places", "firstCell", "(I)I"⟩ : MethodName).cls ≠ "java/lang/invoke/VarHandle" ∧ (parseMethodDescriptor (⟨"MirrorHeirs$Places", "firstCell", "(I)I"⟩ : MethodName).desc).map (fun d => d.parameters.length) = some 1 := by decide +kernel
theorem xs_X2_group : Cond.instanceMethod ⟨"MirrorHeirs$Places", "group", "(II)V"⟩ ∈ xTs := xt_5 204 rfl rfl
theorem xq_X2_group : Cond.selects "MirrorHeirs$Places" ⟨"MirrorHeirs$Places", "group", "(II)V"⟩ ⟨"MirrorHeirs$Places", "group", "(II)V"⟩ ∈ xTs := xp3 6 rfl
theorem xz_X2_group : Cond.initialized "MirrorHeirs$Places" ∈ xTs := xt_1 12 rfl rfl
theorem xe_X2_group : Cond.code ⟨"MirrorHeirs$Places", "group", "(II)V"⟩ prog_4_method_3_code 4 none ∈ xTs := xt_5 205 rfl rfl
theorem xp_X2_group : (⟨"MirrorHeirs$Places", "group", "(II)V"⟩ : MethodName).cls ≠ "java/lang/invoke/MethodHandle" ∧ (⟨"MirrorHeirs$Places", "group", "(II)V"⟩ : MethodName).cls ≠ "java/lang/invoke/VarHandle" ∧ (parseMethodDescriptor (⟨"MirrorHeirs$Places", "group", "(II)V"⟩ : MethodName).desc).map (fun d => d.parameters.length) = some 2 := by decide +kernel
theorem xs_X2_hidingCells : Cond.instanceMethod ⟨"MirrorHeirs$Places", "hidingCells", "(II)J"⟩ ∈ xTs := xt_6 80 rfl rfl
theorem xq_X2_hidingCells : Cond.selects "MirrorHeirs$Places" ⟨"MirrorHeirs$Places", "hidingCells", "(II)J"⟩ ⟨"MirrorHeirs$Places", "hidingCells", "(II)J"⟩ ∈ xTs := xt_6 81 rfl rfl
theorem xz_X2_hidingCells : Cond.initialized "MirrorHeirs$Places" ∈ xTs := xt_1 12 rfl rfl
theorem xe_X2_hidingCells : Cond.code ⟨"MirrorHeirs$Places", "hidingCells", "(II)J"⟩ prog_4_method_8_code 8 (some (.long)) ∈ xTs := xt_6 82 rfl rfl
theorem xp_X2_hidingCells : (⟨"MirrorHeirs$Places", "hidingCells", "(II)J"⟩ : MethodName).cls ≠ "java/lang/invoke/MethodHandle" ∧ (⟨"MirrorHeirs$Places", "hidingCells", "(II)J"⟩ : MethodName).cls ≠ "java/lang/invoke/VarHandle" ∧ (parseMethodDescriptor (⟨"MirrorHeirs$Places", "hidingCells", "(II)J"⟩ : MethodName).desc).map (fun d => d.parameters.length) = some 2 := by decide +kernel
theorem xs_X2_init : Cond.instanceMethod ⟨"MirrorHeirs$Places", "<init>", "(LMirrorHeirs$Hall;LMirrorHeirs$Sight;)V"⟩ ∈ xTs := xt_2 122 rfl rfl
theorem xz_X2_init : Cond.initialized "MirrorHeirs$Places" ∈ xTs := xt_1 12 rfl rfl
theorem xe_X2_init : Cond.code ⟨"MirrorHeirs$Places", "<init>", "(LMirrorHeirs$Hall;LMirrorHeirs$Sight;)V"⟩ prog_4_method_1_code 3 none ∈ xTs := xt_2 123 rfl rfl
theorem xp_X2_init : (⟨"MirrorHeirs$Places", "<init>", "(LMirrorHeirs$Hall;LMirrorHeirs$Sight;)V"⟩ : MethodName).cls ≠ "java/lang/invoke/MethodHandle" ∧ (⟨"MirrorHeirs$Places", "<init>", "(LMirrorHeirs$Hall;LMirrorHeirs$Sight;)V"⟩ : MethodName).cls ≠ "java/lang/invoke/VarHandle" ∧ (parseMethodDescriptor (⟨"MirrorHeirs$Places", "<init>", "(LMirrorHeirs$Hall;LMirrorHeirs$Sight;)V"⟩ : MethodName).desc).map (fun d => d.parameters.length) = some 2 := by decide +kernel
theorem xs_X2_pairsBehind : Cond.instanceMethod ⟨"MirrorHeirs$Places", "pairsBehind", "(I)I"⟩ ∈ xTs := xt_6 90 rfl rfl
theorem xq_X2_pairsBehind : Cond.selects "MirrorHeirs$Places" ⟨"MirrorHeirs$Places", "pairsBehind", "(I)I"⟩ ⟨"MirrorHeirs$Places", "pairsBehind", "(I)I"⟩ ∈ xTs := xt_6 91 rfl rfl
theorem xz_X2_pairsBehind : Cond.initialized "MirrorHeirs$Places" ∈ xTs := xt_1 12 rfl rfl
theorem xe_X2_pairsBehind : Cond.code ⟨"MirrorHeirs$Places", "pairsBehind", "(I)I"⟩ prog_4_method_9_code 6 (some (.int)) ∈ xTs := xt_6 92 rfl rfl
theorem xp_X2_pairsBehind : (⟨"MirrorHeirs$Places", "pairsBehind", "(I)I"⟩ : MethodName).cls ≠ "java/lang/invoke/MethodHandle" ∧ (⟨"MirrorHeirs$Places", "pairsBehind", "(I)I"⟩ : MethodName).cls ≠ "java/lang/invoke/VarHandle" ∧ (parseMethodDescriptor (⟨"MirrorHeirs$Places", "pairsBehind", "(I)I"⟩ : MethodName).desc).map (fun d => d.parameters.length) = some 1 := by decide +kernel
theorem xs_X2_rest : Cond.instanceMethod ⟨"MirrorHeirs$Places", "rest", "(IJJ)V"⟩ ∈ xTs := xt_5 212 rfl rfl
theorem xq_X2_rest : Cond.selects "MirrorHeirs$Places" ⟨"MirrorHeirs$Places", "rest", "(IJJ)V"⟩ ⟨"MirrorHeirs$Places", "rest", "(IJJ)V"⟩ ∈ xTs := xp3 8 rfl
theorem xz_X2_rest : Cond.initialized "MirrorHeirs$Places" ∈ xTs := xt_1 12 rfl rfl
theorem xe_X2_rest : Cond.code ⟨"MirrorHeirs$Places", "rest", "(IJJ)V"⟩ prog_4_method_5_code 15 none ∈ xTs := xt_5 213 rfl rfl
theorem xp_X2_rest : (⟨"MirrorHeirs$Places", "rest", "(IJJ)V"⟩ : MethodName).cls ≠ "java/lang/invoke/MethodHandle" ∧ (⟨"MirrorHeirs$Places", "rest", "(IJJ)V"⟩ : MethodName).cls ≠ "java/lang/invoke/VarHandle" ∧ (parseMethodDescriptor (⟨"MirrorHeirs$Places", "rest", "(IJJ)V"⟩ : MethodName).desc).map (fun d => d.parameters.length) = some 3 := by decide +kernel
theorem xs_X2_strangerCells : Cond.instanceMethod ⟨"MirrorHeirs$Places", "strangerCells", "()J"⟩ ∈ xTs := xt_6 47 rfl rfl
theorem xq_X2_strangerCells : Cond.selects "MirrorHeirs$Places" ⟨"MirrorHeirs$Places", "strangerCells", "()J"⟩ ⟨"MirrorHeirs$Places", "strangerCells", "()J"⟩ ∈ xTs := xt_6 48 rfl rfl
theorem xz_X2_strangerCells : Cond.initialized "MirrorHeirs$Places" ∈ xTs := xt_1 12 rfl rfl
theorem xe_X2_strangerCells : Cond.code ⟨"MirrorHeirs$Places", "strangerCells", "()J"⟩ prog_4_method_7_code 6 (some (.long)) ∈ xTs := xt_6 49 rfl rfl
theorem xp_X2_strangerCells : (⟨"MirrorHeirs$Places", "strangerCells", "()J"⟩ : MethodName).cls ≠ "java/lang/invoke/MethodHandle" ∧ (⟨"MirrorHeirs$Places", "strangerCells", "()J"⟩ : MethodName).cls ≠ "java/lang/invoke/VarHandle" ∧ (parseMethodDescriptor (⟨"MirrorHeirs$Places", "strangerCells", "()J"⟩ : MethodName).desc).map (fun d => d.parameters.length) = some 0 := by decide +kernel
theorem xs_X3_advance : Cond.instanceMethod ⟨"MirrorHeirs$Reader", "advance", "()V"⟩ ∈ xTs := xt_3 224 rfl rfl
theorem xq_X3_advance : Cond.selects "MirrorHeirs$Reader" ⟨"MirrorHeirs$Reader", "advance", "()V"⟩ ⟨"MirrorHeirs$Reader", "advance", "()V"⟩ ∈ xTs := xp1 6 rfl
theorem xz_X3_advance : Cond.initialized "MirrorHeirs$Reader" ∈ xTs := xt_1 9 rfl rfl
theorem xe_X3_advance : Cond.code ⟨"MirrorHeirs$Reader", "advance", "()V"⟩ prog_5_method_23_code 3 none ∈ xTs := xt_3 225 rfl rfl
theorem xp_X3_advance : (⟨"MirrorHeirs$Reader", "advance", "()V"⟩ : MethodName).cls ≠ "java/lang/invoke/MethodHandle" ∧ (⟨"MirrorHeirs$Reader", "advance", "()V"⟩ : MethodName).cls ≠ "java/lang/invoke/VarHandle" ∧ (parseMethodDescriptor (⟨"MirrorHeirs$Reader", "advance", "()V"⟩ : MethodName).desc).map (fun d => d.parameters.length) = some 0 := by decide +kernel
theorem xs_X3_begin : Cond.instanceMethod ⟨"MirrorHeirs$Reader", "begin", "(IZ)V"⟩ ∈ xTs := xt_3 211 rfl rfl
theorem xq_X3_begin : Cond.selects "MirrorHeirs$Reader" ⟨"MirrorHeirs$Reader", "begin", "(IZ)V"⟩ ⟨"MirrorHeirs$Reader", "begin", "(IZ)V"⟩ ∈ xTs := xp1 5 rfl
theorem xz_X3_begin : Cond.initialized "MirrorHeirs$Reader" ∈ xTs := xt_1 9 rfl rfl
theorem xe_X3_begin : Cond.code ⟨"MirrorHeirs$Reader", "begin", "(IZ)V"⟩ prog_5_method_4_code 3 none ∈ xTs := xt_3 212 rfl rfl
theorem xp_X3_begin : (⟨"MirrorHeirs$Reader", "begin", "(IZ)V"⟩ : MethodName).cls ≠ "java/lang/invoke/MethodHandle" ∧ (⟨"MirrorHeirs$Reader", "begin", "(IZ)V"⟩ : MethodName).cls ≠ "java/lang/invoke/VarHandle" ∧ (parseMethodDescriptor (⟨"MirrorHeirs$Reader", "begin", "(IZ)V"⟩ : MethodName).desc).map (fun d => d.parameters.length) = some 2 := by decide +kernel
theorem xs_X3_both : Cond.instanceMethod ⟨"MirrorHeirs$Reader", "both", "()V"⟩ ∈ xTs := xt_4 134 rfl rfl
theorem xq_X3_both : Cond.selects "MirrorHeirs$Reader" ⟨"MirrorHeirs$Reader", "both", "()V"⟩ ⟨"MirrorHeirs$Reader", "both", "()V"⟩ ∈ xTs := xp2 6 rfl
theorem xz_X3_both : Cond.initialized "MirrorHeirs$Reader" ∈ xTs := xt_1 9 rfl rfl
theorem xe_X3_both : Cond.code ⟨"MirrorHeirs$Reader", "both", "()V"⟩ prog_5_method_11_code 3 none ∈ xTs := xt_4 135 rfl rfl
theorem xp_X3_both : (⟨"MirrorHeirs$Reader", "both", "()V"⟩ : MethodName).cls ≠ "java/lang/invoke/MethodHandle" ∧ (⟨"MirrorHeirs$Reader", "both", "()V"⟩ : MethodName).cls ≠ "java/lang/invoke/VarHandle" ∧ (parseMethodDescriptor (⟨"MirrorHeirs$Reader", "both", "()V"⟩ : MethodName).desc).map (fun d => d.parameters.length) = some 0 := by decide +kernel
theorem xs_X3_byteAt : Cond.instanceMethod ⟨"MirrorHeirs$Reader", "byteAt", "(I)I"⟩ ∈ xTs := xt_3 228 rfl rfl
theorem xq_X3_byteAt : Cond.selects "MirrorHeirs$Reader" ⟨"MirrorHeirs$Reader", "byteAt", "(I)I"⟩ ⟨"MirrorHeirs$Reader", "byteAt", "(I)I"⟩ ∈ xTs := xp1 7 rfl
theorem xz_X3_byteAt : Cond.initialized "MirrorHeirs$Reader" ∈ xTs := xt_1 9 rfl rfl
theorem xe_X3_byteAt : Cond.code ⟨"MirrorHeirs$Reader", "byteAt", "(I)I"⟩ prog_5_method_24_code 2 (some (.int)) ∈ xTs := xt_3 229 rfl rfl
theorem xp_X3_byteAt : (⟨"MirrorHeirs$Reader", "byteAt", "(I)I"⟩ : MethodName).cls ≠ "java/lang/invoke/MethodHandle" ∧ (⟨"MirrorHeirs$Reader", "byteAt", "(I)I"⟩ : MethodName).cls ≠ "java/lang/invoke/VarHandle" ∧ (parseMethodDescriptor (⟨"MirrorHeirs$Reader", "byteAt", "(I)I"⟩ : MethodName).desc).map (fun d => d.parameters.length) = some 1 := by decide +kernel
theorem xs_X3_clause : Cond.instanceMethod ⟨"MirrorHeirs$Reader", "clause", "(I)V"⟩ ∈ xTs := xt_3 239 rfl rfl
theorem xq_X3_clause : Cond.selects "MirrorHeirs$Reader" ⟨"MirrorHeirs$Reader", "clause", "(I)V"⟩ ⟨"MirrorHeirs$Reader", "clause", "(I)V"⟩ ∈ xTs := xp1 8 rfl
theorem xz_X3_clause : Cond.initialized "MirrorHeirs$Reader" ∈ xTs := xt_1 9 rfl rfl
theorem xe_X3_clause : Cond.code ⟨"MirrorHeirs$Reader", "clause", "(I)V"⟩ prog_5_method_7_code 2 none ∈ xTs := xt_4 0 rfl rfl
theorem xp_X3_clause : (⟨"MirrorHeirs$Reader", "clause", "(I)V"⟩ : MethodName).cls ≠ "java/lang/invoke/MethodHandle" ∧ (⟨"MirrorHeirs$Reader", "clause", "(I)V"⟩ : MethodName).cls ≠ "java/lang/invoke/VarHandle" ∧ (parseMethodDescriptor (⟨"MirrorHeirs$Reader", "clause", "(I)V"⟩ : MethodName).desc).map (fun d => d.parameters.length) = some 1 := by decide +kernel
theorem xs_X3_closes : Cond.instanceMethod ⟨"MirrorHeirs$Reader", "closes", "(Ljava/lang/String;)V"⟩ ∈ xTs := xt_4 84 rfl rfl
theorem xq_X3_closes : Cond.selects "MirrorHeirs$Reader" ⟨"MirrorHeirs$Reader", "closes", "(Ljava/lang/String;)V"⟩ ⟨"MirrorHeirs$Reader", "closes", "(Ljava/lang/String;)V"⟩ ∈ xTs := xp2 0 rfl
theorem xz_X3_closes : Cond.initialized "MirrorHeirs$Reader" ∈ xTs := xt_1 9 rfl rfl
theorem xe_X3_closes : Cond.code ⟨"MirrorHeirs$Reader", "closes", "(Ljava/lang/String;)V"⟩ prog_5_method_20_code 2 none ∈ xTs := xt_4 85 rfl rfl
theorem xp_X3_closes : (⟨"MirrorHeirs$Reader", "closes", "(Ljava/lang/String;)V"⟩ : MethodName).cls ≠ "java/lang/invoke/MethodHandle" ∧ (⟨"MirrorHeirs$Reader", "closes", "(Ljava/lang/String;)V"⟩ : MethodName).cls ≠ "java/lang/invoke/VarHandle" ∧ (parseMethodDescriptor (⟨"MirrorHeirs$Reader", "closes", "(Ljava/lang/String;)V"⟩ : MethodName).desc).map (fun d => d.parameters.length) = some 1 := by decide +kernel
theorem xs_X3_condition : Cond.instanceMethod ⟨"MirrorHeirs$Reader", "condition", "(I)V"⟩ ∈ xTs := xt_4 125 rfl rfl
theorem xq_X3_condition : Cond.selects "MirrorHeirs$Reader" ⟨"MirrorHeirs$Reader", "condition", "(I)V"⟩ ⟨"MirrorHeirs$Reader", "condition", "(I)V"⟩ ∈ xTs := xp2 4 rfl
theorem xz_X3_condition : Cond.initialized "MirrorHeirs$Reader" ∈ xTs := xt_1 9 rfl rfl
theorem xe_X3_condition : Cond.code ⟨"MirrorHeirs$Reader", "condition", "(I)V"⟩ prog_5_method_9_code 2 none ∈ xTs := xt_4 126 rfl rfl
theorem xp_X3_condition : (⟨"MirrorHeirs$Reader", "condition", "(I)V"⟩ : MethodName).cls ≠ "java/lang/invoke/MethodHandle" ∧ (⟨"MirrorHeirs$Reader", "condition", "(I)V"⟩ : MethodName).cls ≠ "java/lang/invoke/VarHandle" ∧ (parseMethodDescriptor (⟨"MirrorHeirs$Reader", "condition", "(I)V"⟩ : MethodName).desc).map (fun d => d.parameters.length) = some 1 := by decide +kernel
theorem xs_X3_fail : Cond.instanceMethod ⟨"MirrorHeirs$Reader", "fail", "()I"⟩ ∈ xTs := xt_4 79 rfl rfl
theorem xq_X3_fail : Cond.selects "MirrorHeirs$Reader" ⟨"MirrorHeirs$Reader", "fail", "()I"⟩ ⟨"MirrorHeirs$Reader", "fail", "()I"⟩ ∈ xTs := xp1 15 rfl
theorem xz_X3_fail : Cond.initialized "MirrorHeirs$Reader" ∈ xTs := xt_1 9 rfl rfl
theorem xe_X3_fail : Cond.code ⟨"MirrorHeirs$Reader", "fail", "()I"⟩ prog_5_method_6_code 1 (some (.int)) ∈ xTs := xt_4 80 rfl rfl
theorem xp_X3_fail : (⟨"MirrorHeirs$Reader", "fail", "()I"⟩ : MethodName).cls ≠ "java/lang/invoke/MethodHandle" ∧ (⟨"MirrorHeirs$Reader", "fail", "()I"⟩ : MethodName).cls ≠ "java/lang/invoke/VarHandle" ∧ (parseMethodDescriptor (⟨"MirrorHeirs$Reader", "fail", "()I"⟩ : MethodName).desc).map (fun d => d.parameters.length) = some 0 := by decide +kernel
theorem xs_X3_finish : Cond.instanceMethod ⟨"MirrorHeirs$Reader", "finish", "()I"⟩ ∈ xTs := xt_4 155 rfl rfl
theorem xq_X3_finish : Cond.selects "MirrorHeirs$Reader" ⟨"MirrorHeirs$Reader", "finish", "()I"⟩ ⟨"MirrorHeirs$Reader", "finish", "()I"⟩ ∈ xTs := xp2 8 rfl
theorem xz_X3_finish : Cond.initialized "MirrorHeirs$Reader" ∈ xTs := xt_1 9 rfl rfl
theorem xe_X3_finish : Cond.code ⟨"MirrorHeirs$Reader", "finish", "()I"⟩ prog_5_method_5_code 1 (some (.int)) ∈ xTs := xt_4 156 rfl rfl
theorem xp_X3_finish : (⟨"MirrorHeirs$Reader", "finish", "()I"⟩ : MethodName).cls ≠ "java/lang/invoke/MethodHandle" ∧ (⟨"MirrorHeirs$Reader", "finish", "()I"⟩ : MethodName).cls ≠ "java/lang/invoke/VarHandle" ∧ (parseMethodDescriptor (⟨"MirrorHeirs$Reader", "finish", "()I"⟩ : MethodName).desc).map (fun d => d.parameters.length) = some 0 := by decide +kernel
theorem xs_X3_init : Cond.instanceMethod ⟨"MirrorHeirs$Reader", "<init>", "([I)V"⟩ ∈ xTs := xt_1 227 rfl rfl
theorem xz_X3_init : Cond.initialized "MirrorHeirs$Reader" ∈ xTs := xt_1 9 rfl rfl
theorem xe_X3_init : Cond.code ⟨"MirrorHeirs$Reader", "<init>", "([I)V"⟩ prog_5_method_1_code 2 none ∈ xTs := xt_1 228 rfl rfl
theorem xp_X3_init : (⟨"MirrorHeirs$Reader", "<init>", "([I)V"⟩ : MethodName).cls ≠ "java/lang/invoke/MethodHandle" ∧ (⟨"MirrorHeirs$Reader", "<init>", "([I)V"⟩ : MethodName).cls ≠ "java/lang/invoke/VarHandle" ∧ (parseMethodDescriptor (⟨"MirrorHeirs$Reader", "<init>", "([I)V"⟩ : MethodName).desc).map (fun d => d.parameters.length) = some 1 := by decide +kernel
theorem xs_X3_is : Cond.instanceMethod ⟨"MirrorHeirs$Reader", "is", "(Ljava/lang/String;)Z"⟩ ∈ xTs := xt_4 4 rfl rfl
theorem xq_X3_is : Cond.selects "MirrorHeirs$Reader" ⟨"MirrorHeirs$Reader", "is", "(Ljava/lang/String;)Z"⟩ ⟨"MirrorHeirs$Reader", "is", "(Ljava/lang/String;)Z"⟩ ∈ xTs := xp1 9 rfl
theorem xz_X3_is : Cond.initialized "MirrorHeirs$Reader" ∈ xTs := xt_1 9 rfl rfl
theorem xe_X3_is : Cond.code ⟨"MirrorHeirs$Reader", "is", "(Ljava/lang/String;)Z"⟩ prog_5_method_22_code 3 (some (.boolean)) ∈ xTs := xt_4 5 rfl rfl
theorem xp_X3_is : (⟨"MirrorHeirs$Reader", "is", "(Ljava/lang/String;)Z"⟩ : MethodName).cls ≠ "java/lang/invoke/MethodHandle" ∧ (⟨"MirrorHeirs$Reader", "is", "(Ljava/lang/String;)Z"⟩ : MethodName).cls ≠ "java/lang/invoke/VarHandle" ∧ (parseMethodDescriptor (⟨"MirrorHeirs$Reader", "is", "(Ljava/lang/String;)Z"⟩ : MethodName).desc).map (fun d => d.parameters.length) = some 1 := by decide +kernel
theorem xs_X3_isDigit : Cond.static ⟨"MirrorHeirs$Reader", "isDigit", "(I)Z"⟩ ∈ xTs := xt_3 234 rfl rfl
theorem xz_X3_isDigit : Cond.initialized "MirrorHeirs$Reader" ∈ xTs := xt_1 9 rfl rfl
theorem xe_X3_isDigit : Cond.code ⟨"MirrorHeirs$Reader", "isDigit", "(I)Z"⟩ prog_5_method_26_code 1 (some (.boolean)) ∈ xTs := xt_3 235 rfl rfl
theorem xp_X3_isDigit : (⟨"MirrorHeirs$Reader", "isDigit", "(I)Z"⟩ : MethodName).cls ≠ "java/lang/invoke/MethodHandle" ∧ (⟨"MirrorHeirs$Reader", "isDigit", "(I)Z"⟩ : MethodName).cls ≠ "java/lang/invoke/VarHandle" ∧ (parseMethodDescriptor (⟨"MirrorHeirs$Reader", "isDigit", "(I)Z"⟩ : MethodName).desc).map (fun d => d.parameters.length) = some 1 := by decide +kernel
theorem xs_X3_isLetter : Cond.static ⟨"MirrorHeirs$Reader", "isLetter", "(I)Z"⟩ ∈ xTs := xt_3 231 rfl rfl
theorem xz_X3_isLetter : Cond.initialized "MirrorHeirs$Reader" ∈ xTs := xt_1 9 rfl rfl
theorem xe_X3_isLetter : Cond.code ⟨"MirrorHeirs$Reader", "isLetter", "(I)Z"⟩ prog_5_method_25_code 1 (some (.boolean)) ∈ xTs := xt_3 232 rfl rfl
theorem xp_X3_isLetter : (⟨"MirrorHeirs$Reader", "isLetter", "(I)Z"⟩ : MethodName).cls ≠ "java/lang/invoke/MethodHandle" ∧ (⟨"MirrorHeirs$Reader", "isLetter", "(I)Z"⟩ : MethodName).cls ≠ "java/lang/invoke/VarHandle" ∧ (parseMethodDescriptor (⟨"MirrorHeirs$Reader", "isLetter", "(I)Z"⟩ : MethodName).desc).map (fun d => d.parameters.length) = some 1 := by decide +kernel
theorem xs_X3_lawWord : Cond.instanceMethod ⟨"MirrorHeirs$Reader", "lawWord", "()I"⟩ ∈ xTs := xt_4 88 rfl rfl
theorem xq_X3_lawWord : Cond.selects "MirrorHeirs$Reader" ⟨"MirrorHeirs$Reader", "lawWord", "()I"⟩ ⟨"MirrorHeirs$Reader", "lawWord", "()I"⟩ ∈ xTs := xp2 1 rfl
theorem xz_X3_lawWord : Cond.initialized "MirrorHeirs$Reader" ∈ xTs := xt_1 9 rfl rfl
theorem xe_X3_lawWord : Cond.code ⟨"MirrorHeirs$Reader", "lawWord", "()I"⟩ prog_5_method_16_code 1 (some (.int)) ∈ xTs := xt_4 89 rfl rfl
theorem xp_X3_lawWord : (⟨"MirrorHeirs$Reader", "lawWord", "()I"⟩ : MethodName).cls ≠ "java/lang/invoke/MethodHandle" ∧ (⟨"MirrorHeirs$Reader", "lawWord", "()I"⟩ : MethodName).cls ≠ "java/lang/invoke/VarHandle" ∧ (parseMethodDescriptor (⟨"MirrorHeirs$Reader", "lawWord", "()I"⟩ : MethodName).desc).map (fun d => d.parameters.length) = some 0 := by decide +kernel
theorem xs_X3_opens : Cond.instanceMethod ⟨"MirrorHeirs$Reader", "opens", "(Ljava/lang/String;)Z"⟩ ∈ xTs := xt_4 75 rfl rfl
theorem xq_X3_opens : Cond.selects "MirrorHeirs$Reader" ⟨"MirrorHeirs$Reader", "opens", "(Ljava/lang/String;)Z"⟩ ⟨"MirrorHeirs$Reader", "opens", "(Ljava/lang/String;)Z"⟩ ∈ xTs := xp1 14 rfl
theorem xz_X3_opens : Cond.initialized "MirrorHeirs$Reader" ∈ xTs := xt_1 9 rfl rfl
theorem xe_X3_opens : Cond.code ⟨"MirrorHeirs$Reader", "opens", "(Ljava/lang/String;)Z"⟩ prog_5_method_19_code 2 (some (.boolean)) ∈ xTs := xt_4 76 rfl rfl
theorem xp_X3_opens : (⟨"MirrorHeirs$Reader", "opens", "(Ljava/lang/String;)Z"⟩ : MethodName).cls ≠ "java/lang/invoke/MethodHandle" ∧ (⟨"MirrorHeirs$Reader", "opens", "(Ljava/lang/String;)Z"⟩ : MethodName).cls ≠ "java/lang/invoke/VarHandle" ∧ (parseMethodDescriptor (⟨"MirrorHeirs$Reader", "opens", "(Ljava/lang/String;)Z"⟩ : MethodName).desc).map (fun d => d.parameters.length) = some 1 := by decide +kernel
theorem xs_X3_order : Cond.instanceMethod ⟨"MirrorHeirs$Reader", "order", "(I)V"⟩ ∈ xTs := xt_4 183 rfl rfl
theorem xq_X3_order : Cond.selects "MirrorHeirs$Reader" ⟨"MirrorHeirs$Reader", "order", "(I)V"⟩ ⟨"MirrorHeirs$Reader", "order", "(I)V"⟩ ∈ xTs := xp2 9 rfl
theorem xz_X3_order : Cond.initialized "MirrorHeirs$Reader" ∈ xTs := xt_1 9 rfl rfl
theorem xe_X3_order : Cond.code ⟨"MirrorHeirs$Reader", "order", "(I)V"⟩ prog_5_method_8_code 2 none ∈ xTs := xt_4 184 rfl rfl
theorem xp_X3_order : (⟨"MirrorHeirs$Reader", "order", "(I)V"⟩ : MethodName).cls ≠ "java/lang/invoke/MethodHandle" ∧ (⟨"MirrorHeirs$Reader", "order", "(I)V"⟩ : MethodName).cls ≠ "java/lang/invoke/VarHandle" ∧ (parseMethodDescriptor (⟨"MirrorHeirs$Reader", "order", "(I)V"⟩ : MethodName).desc).map (fun d => d.parameters.length) = some 1 := by decide +kernel
theorem xs_X3_orderWord : Cond.instanceMethod ⟨"MirrorHeirs$Reader", "orderWord", "()I"⟩ ∈ xTs := xt_4 102 rfl rfl
theorem xq_X3_orderWord : Cond.selects "MirrorHeirs$Reader" ⟨"MirrorHeirs$Reader", "orderWord", "()I"⟩ ⟨"MirrorHeirs$Reader", "orderWord", "()I"⟩ ∈ xTs := xp2 2 rfl
theorem xz_X3_orderWord : Cond.initialized "MirrorHeirs$Reader" ∈ xTs := xt_1 9 rfl rfl
theorem xe_X3_orderWord : Cond.code ⟨"MirrorHeirs$Reader", "orderWord", "()I"⟩ prog_5_method_17_code 2 (some (.int)) ∈ xTs := xt_4 103 rfl rfl
theorem xp_X3_orderWord : (⟨"MirrorHeirs$Reader", "orderWord", "()I"⟩ : MethodName).cls ≠ "java/lang/invoke/MethodHandle" ∧ (⟨"MirrorHeirs$Reader", "orderWord", "()I"⟩ : MethodName).cls ≠ "java/lang/invoke/VarHandle" ∧ (parseMethodDescriptor (⟨"MirrorHeirs$Reader", "orderWord", "()I"⟩ : MethodName).desc).map (fun d => d.parameters.length) = some 0 := by decide +kernel
theorem xs_X3_part : Cond.instanceMethod ⟨"MirrorHeirs$Reader", "part", "()V"⟩ ∈ xTs := xt_4 70 rfl rfl
theorem xq_X3_part : Cond.selects "MirrorHeirs$Reader" ⟨"MirrorHeirs$Reader", "part", "()V"⟩ ⟨"MirrorHeirs$Reader", "part", "()V"⟩ ∈ xTs := xp1 13 rfl
theorem xz_X3_part : Cond.initialized "MirrorHeirs$Reader" ∈ xTs := xt_1 9 rfl rfl
theorem xe_X3_part : Cond.code ⟨"MirrorHeirs$Reader", "part", "()V"⟩ prog_5_method_15_code 4 none ∈ xTs := xt_4 71 rfl rfl
theorem xp_X3_part : (⟨"MirrorHeirs$Reader", "part", "()V"⟩ : MethodName).cls ≠ "java/lang/invoke/MethodHandle" ∧ (⟨"MirrorHeirs$Reader", "part", "()V"⟩ : MethodName).cls ≠ "java/lang/invoke/VarHandle" ∧ (parseMethodDescriptor (⟨"MirrorHeirs$Reader", "part", "()V"⟩ : MethodName).desc).map (fun d => d.parameters.length) = some 0 := by decide +kernel
theorem xs_X3_plain : Cond.instanceMethod ⟨"MirrorHeirs$Reader", "plain", "()V"⟩ ∈ xTs := xt_4 138 rfl rfl
theorem xq_X3_plain : Cond.selects "MirrorHeirs$Reader" ⟨"MirrorHeirs$Reader", "plain", "()V"⟩ ⟨"MirrorHeirs$Reader", "plain", "()V"⟩ ∈ xTs := xp2 7 rfl
theorem xz_X3_plain : Cond.initialized "MirrorHeirs$Reader" ∈ xTs := xt_1 9 rfl rfl
theorem xe_X3_plain : Cond.code ⟨"MirrorHeirs$Reader", "plain", "()V"⟩ prog_5_method_12_code 3 none ∈ xTs := xt_4 139 rfl rfl
theorem xp_X3_plain : (⟨"MirrorHeirs$Reader", "plain", "()V"⟩ : MethodName).cls ≠ "java/lang/invoke/MethodHandle" ∧ (⟨"MirrorHeirs$Reader", "plain", "()V"⟩ : MethodName).cls ≠ "java/lang/invoke/VarHandle" ∧ (parseMethodDescriptor (⟨"MirrorHeirs$Reader", "plain", "()V"⟩ : MethodName).desc).map (fun d => d.parameters.length) = some 0 := by decide +kernel
theorem xs_X3_readLaw : Cond.instanceMethod ⟨"MirrorHeirs$Reader", "readLaw", "(I)I"⟩ ∈ xTs := xt_3 206 rfl rfl
theorem xq_X3_readLaw : Cond.selects "MirrorHeirs$Reader" ⟨"MirrorHeirs$Reader", "readLaw", "(I)I"⟩ ⟨"MirrorHeirs$Reader", "readLaw", "(I)I"⟩ ∈ xTs := xt_3 207 rfl rfl
theorem xz_X3_readLaw : Cond.initialized "MirrorHeirs$Reader" ∈ xTs := xt_1 9 rfl rfl
theorem xe_X3_readLaw : Cond.code ⟨"MirrorHeirs$Reader", "readLaw", "(I)I"⟩ prog_5_method_2_code 3 (some (.int)) ∈ xTs := xt_3 208 rfl rfl
theorem xp_X3_readLaw : (⟨"MirrorHeirs$Reader", "readLaw", "(I)I"⟩ : MethodName).cls ≠ "java/lang/invoke/MethodHandle" ∧ (⟨"MirrorHeirs$Reader", "readLaw", "(I)I"⟩ : MethodName).cls ≠ "java/lang/invoke/VarHandle" ∧ (parseMethodDescriptor (⟨"MirrorHeirs$Reader", "readLaw", "(I)I"⟩ : MethodName).desc).map (fun d => d.parameters.length) = some 1 := by decide +kernel
theorem xs_X3_readOrders : Cond.instanceMethod ⟨"MirrorHeirs$Reader", "readOrders", "(I)I"⟩ ∈ xTs := xt_4 178 rfl rfl
theorem xq_X3_readOrders : Cond.selects "MirrorHeirs$Reader" ⟨"MirrorHeirs$Reader", "readOrders", "(I)I"⟩ ⟨"MirrorHeirs$Reader", "readOrders", "(I)I"⟩ ∈ xTs := xt_4 179 rfl rfl
theorem xz_X3_readOrders : Cond.initialized "MirrorHeirs$Reader" ∈ xTs := xt_1 9 rfl rfl
theorem xe_X3_readOrders : Cond.code ⟨"MirrorHeirs$Reader", "readOrders", "(I)I"⟩ prog_5_method_3_code 3 (some (.int)) ∈ xTs := xt_4 180 rfl rfl
theorem xp_X3_readOrders : (⟨"MirrorHeirs$Reader", "readOrders", "(I)I"⟩ : MethodName).cls ≠ "java/lang/invoke/MethodHandle" ∧ (⟨"MirrorHeirs$Reader", "readOrders", "(I)I"⟩ : MethodName).cls ≠ "java/lang/invoke/VarHandle" ∧ (parseMethodDescriptor (⟨"MirrorHeirs$Reader", "readOrders", "(I)I"⟩ : MethodName).desc).map (fun d => d.parameters.length) = some 1 := by decide +kernel
theorem xs_X3_sum : Cond.instanceMethod ⟨"MirrorHeirs$Reader", "sum", "()V"⟩ ∈ xTs := xt_4 62 rfl rfl
theorem xq_X3_sum : Cond.selects "MirrorHeirs$Reader" ⟨"MirrorHeirs$Reader", "sum", "()V"⟩ ⟨"MirrorHeirs$Reader", "sum", "()V"⟩ ∈ xTs := xp1 11 rfl
theorem xz_X3_sum : Cond.initialized "MirrorHeirs$Reader" ∈ xTs := xt_1 9 rfl rfl
theorem xe_X3_sum : Cond.code ⟨"MirrorHeirs$Reader", "sum", "()V"⟩ prog_5_method_13_code 3 none ∈ xTs := xt_4 63 rfl rfl
theorem xp_X3_sum : (⟨"MirrorHeirs$Reader", "sum", "()V"⟩ : MethodName).cls ≠ "java/lang/invoke/MethodHandle" ∧ (⟨"MirrorHeirs$Reader", "sum", "()V"⟩ : MethodName).cls ≠ "java/lang/invoke/VarHandle" ∧ (parseMethodDescriptor (⟨"MirrorHeirs$Reader", "sum", "()V"⟩ : MethodName).desc).map (fun d => d.parameters.length) = some 0 := by decide +kernel
theorem xs_X3_take : Cond.instanceMethod ⟨"MirrorHeirs$Reader", "take", "(Ljava/lang/String;)Z"⟩ ∈ xTs := xt_4 57 rfl rfl
theorem xq_X3_take : Cond.selects "MirrorHeirs$Reader" ⟨"MirrorHeirs$Reader", "take", "(Ljava/lang/String;)Z"⟩ ⟨"MirrorHeirs$Reader", "take", "(Ljava/lang/String;)Z"⟩ ∈ xTs := xp1 10 rfl
theorem xz_X3_take : Cond.initialized "MirrorHeirs$Reader" ∈ xTs := xt_1 9 rfl rfl
theorem xe_X3_take : Cond.code ⟨"MirrorHeirs$Reader", "take", "(Ljava/lang/String;)Z"⟩ prog_5_method_21_code 2 (some (.boolean)) ∈ xTs := xt_4 58 rfl rfl
theorem xp_X3_take : (⟨"MirrorHeirs$Reader", "take", "(Ljava/lang/String;)Z"⟩ : MethodName).cls ≠ "java/lang/invoke/MethodHandle" ∧ (⟨"MirrorHeirs$Reader", "take", "(Ljava/lang/String;)Z"⟩ : MethodName).cls ≠ "java/lang/invoke/VarHandle" ∧ (parseMethodDescriptor (⟨"MirrorHeirs$Reader", "take", "(Ljava/lang/String;)Z"⟩ : MethodName).desc).map (fun d => d.parameters.length) = some 1 := by decide +kernel
theorem xs_X3_term : Cond.instanceMethod ⟨"MirrorHeirs$Reader", "term", "()V"⟩ ∈ xTs := xt_4 66 rfl rfl
theorem xq_X3_term : Cond.selects "MirrorHeirs$Reader" ⟨"MirrorHeirs$Reader", "term", "()V"⟩ ⟨"MirrorHeirs$Reader", "term", "()V"⟩ ∈ xTs := xp1 12 rfl
theorem xz_X3_term : Cond.initialized "MirrorHeirs$Reader" ∈ xTs := xt_1 9 rfl rfl
theorem xe_X3_term : Cond.code ⟨"MirrorHeirs$Reader", "term", "()V"⟩ prog_5_method_14_code 3 none ∈ xTs := xt_4 67 rfl rfl
theorem xp_X3_term : (⟨"MirrorHeirs$Reader", "term", "()V"⟩ : MethodName).cls ≠ "java/lang/invoke/MethodHandle" ∧ (⟨"MirrorHeirs$Reader", "term", "()V"⟩ : MethodName).cls ≠ "java/lang/invoke/VarHandle" ∧ (parseMethodDescriptor (⟨"MirrorHeirs$Reader", "term", "()V"⟩ : MethodName).desc).map (fun d => d.parameters.length) = some 0 := by decide +kernel
theorem xs_X3_test : Cond.instanceMethod ⟨"MirrorHeirs$Reader", "test", "()V"⟩ ∈ xTs := xt_4 130 rfl rfl
theorem xq_X3_test : Cond.selects "MirrorHeirs$Reader" ⟨"MirrorHeirs$Reader", "test", "()V"⟩ ⟨"MirrorHeirs$Reader", "test", "()V"⟩ ∈ xTs := xp2 5 rfl
theorem xz_X3_test : Cond.initialized "MirrorHeirs$Reader" ∈ xTs := xt_1 9 rfl rfl
theorem xe_X3_test : Cond.code ⟨"MirrorHeirs$Reader", "test", "()V"⟩ prog_5_method_10_code 3 none ∈ xTs := xt_4 131 rfl rfl
theorem xp_X3_test : (⟨"MirrorHeirs$Reader", "test", "()V"⟩ : MethodName).cls ≠ "java/lang/invoke/MethodHandle" ∧ (⟨"MirrorHeirs$Reader", "test", "()V"⟩ : MethodName).cls ≠ "java/lang/invoke/VarHandle" ∧ (parseMethodDescriptor (⟨"MirrorHeirs$Reader", "test", "()V"⟩ : MethodName).desc).map (fun d => d.parameters.length) = some 0 := by decide +kernel
theorem xs_X3_written : Cond.instanceMethod ⟨"MirrorHeirs$Reader", "written", "(II)I"⟩ ∈ xTs := xt_4 111 rfl rfl
theorem xq_X3_written : Cond.selects "MirrorHeirs$Reader" ⟨"MirrorHeirs$Reader", "written", "(II)I"⟩ ⟨"MirrorHeirs$Reader", "written", "(II)I"⟩ ∈ xTs := xp2 3 rfl
