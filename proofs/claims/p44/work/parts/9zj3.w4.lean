theorem xz_X3_written : Cond.initialized "MirrorHeirs$Reader" ∈ xTs := xt_1 9 rfl rfl
theorem xe_X3_written : Cond.code ⟨"MirrorHeirs$Reader", "written", "(II)I"⟩ prog_5_method_18_code 4 (some (.int)) ∈ xTs := xt_4 112 rfl rfl
theorem xp_X3_written : (⟨"MirrorHeirs$Reader", "written", "(II)I"⟩ : MethodName).cls ≠ "java/lang/invoke/MethodHandle" ∧ (⟨"MirrorHeirs$Reader", "written", "(II)I"⟩ : MethodName).cls ≠ "java/lang/invoke/VarHandle" ∧ (parseMethodDescriptor (⟨"MirrorHeirs$Reader", "written", "(II)I"⟩ : MethodName).desc).map (fun d => d.parameters.length) = some 2 := by decide +kernel
theorem xs_X4_add : Cond.instanceMethod ⟨"MirrorHeirs$Rows", "add", "(III)I"⟩ ∈ xTs := xt_3 95 rfl rfl
theorem xq_X4_add : Cond.selects "MirrorHeirs$Rows" ⟨"MirrorHeirs$Rows", "add", "(III)I"⟩ ⟨"MirrorHeirs$Rows", "add", "(III)I"⟩ ∈ xTs := xt_3 96 rfl rfl
theorem xz_X4_add : Cond.initialized "MirrorHeirs$Rows" ∈ xTs := xt_1 3 rfl rfl
theorem xe_X4_add : Cond.code ⟨"MirrorHeirs$Rows", "add", "(III)I"⟩ prog_6_method_5_code 5 (some (.int)) ∈ xTs := xt_3 97 rfl rfl
theorem xp_X4_add : (⟨"MirrorHeirs$Rows", "add", "(III)I"⟩ : MethodName).cls ≠ "java/lang/invoke/MethodHandle" ∧ (⟨"MirrorHeirs$Rows", "add", "(III)I"⟩ : MethodName).cls ≠ "java/lang/invoke/VarHandle" ∧ (parseMethodDescriptor (⟨"MirrorHeirs$Rows", "add", "(III)I"⟩ : MethodName).desc).map (fun d => d.parameters.length) = some 3 := by decide +kernel
theorem xs_X4_clear : Cond.instanceMethod ⟨"MirrorHeirs$Rows", "clear", "()V"⟩ ∈ xTs := xt_3 72 rfl rfl
theorem xq_X4_clear : Cond.selects "MirrorHeirs$Rows" ⟨"MirrorHeirs$Rows", "clear", "()V"⟩ ⟨"MirrorHeirs$Rows", "clear", "()V"⟩ ∈ xTs := xt_3 73 rfl rfl
theorem xz_X4_clear : Cond.initialized "MirrorHeirs$Rows" ∈ xTs := xt_1 3 rfl rfl
theorem xe_X4_clear : Cond.code ⟨"MirrorHeirs$Rows", "clear", "()V"⟩ prog_6_method_7_code 1 none ∈ xTs := xt_3 74 rfl rfl
theorem xp_X4_clear : (⟨"MirrorHeirs$Rows", "clear", "()V"⟩ : MethodName).cls ≠ "java/lang/invoke/MethodHandle" ∧ (⟨"MirrorHeirs$Rows", "clear", "()V"⟩ : MethodName).cls ≠ "java/lang/invoke/VarHandle" ∧ (parseMethodDescriptor (⟨"MirrorHeirs$Rows", "clear", "()V"⟩ : MethodName).desc).map (fun d => d.parameters.length) = some 0 := by decide +kernel
theorem xs_X4_copy : Cond.instanceMethod ⟨"MirrorHeirs$Rows", "copy", "(LMirrorHeirs$Rows;)V"⟩ ∈ xTs := xt_4 164 rfl rfl
theorem xq_X4_copy : Cond.selects "MirrorHeirs$Rows" ⟨"MirrorHeirs$Rows", "copy", "(LMirrorHeirs$Rows;)V"⟩ ⟨"MirrorHeirs$Rows", "copy", "(LMirrorHeirs$Rows;)V"⟩ ∈ xTs := xt_4 165 rfl rfl
theorem xz_X4_copy : Cond.initialized "MirrorHeirs$Rows" ∈ xTs := xt_1 3 rfl rfl
theorem xe_X4_copy : Cond.code ⟨"MirrorHeirs$Rows", "copy", "(LMirrorHeirs$Rows;)V"⟩ prog_6_method_9_code 4 none ∈ xTs := xt_4 166 rfl rfl
theorem xp_X4_copy : (⟨"MirrorHeirs$Rows", "copy", "(LMirrorHeirs$Rows;)V"⟩ : MethodName).cls ≠ "java/lang/invoke/MethodHandle" ∧ (⟨"MirrorHeirs$Rows", "copy", "(LMirrorHeirs$Rows;)V"⟩ : MethodName).cls ≠ "java/lang/invoke/VarHandle" ∧ (parseMethodDescriptor (⟨"MirrorHeirs$Rows", "copy", "(LMirrorHeirs$Rows;)V"⟩ : MethodName).desc).map (fun d => d.parameters.length) = some 1 := by decide +kernel
theorem xs_X4_drop : Cond.instanceMethod ⟨"MirrorHeirs$Rows", "drop", "(I)V"⟩ ∈ xTs := xt_3 60 rfl rfl
theorem xq_X4_drop : Cond.selects "MirrorHeirs$Rows" ⟨"MirrorHeirs$Rows", "drop", "(I)V"⟩ ⟨"MirrorHeirs$Rows", "drop", "(I)V"⟩ ∈ xTs := xt_3 61 rfl rfl
theorem xz_X4_drop : Cond.initialized "MirrorHeirs$Rows" ∈ xTs := xt_1 3 rfl rfl
theorem xe_X4_drop : Cond.code ⟨"MirrorHeirs$Rows", "drop", "(I)V"⟩ prog_6_method_6_code 3 none ∈ xTs := xt_3 62 rfl rfl
theorem xp_X4_drop : (⟨"MirrorHeirs$Rows", "drop", "(I)V"⟩ : MethodName).cls ≠ "java/lang/invoke/MethodHandle" ∧ (⟨"MirrorHeirs$Rows", "drop", "(I)V"⟩ : MethodName).cls ≠ "java/lang/invoke/VarHandle" ∧ (parseMethodDescriptor (⟨"MirrorHeirs$Rows", "drop", "(I)V"⟩ : MethodName).desc).map (fun d => d.parameters.length) = some 1 := by decide +kernel
theorem xs_X4_find : Cond.instanceMethod ⟨"MirrorHeirs$Rows", "find", "(I)I"⟩ ∈ xTs := xt_3 40 rfl rfl
theorem xq_X4_find : Cond.selects "MirrorHeirs$Rows" ⟨"MirrorHeirs$Rows", "find", "(I)I"⟩ ⟨"MirrorHeirs$Rows", "find", "(I)I"⟩ ∈ xTs := xt_3 41 rfl rfl
theorem xz_X4_find : Cond.initialized "MirrorHeirs$Rows" ∈ xTs := xt_1 3 rfl rfl
theorem xe_X4_find : Cond.code ⟨"MirrorHeirs$Rows", "find", "(I)I"⟩ prog_6_method_8_code 3 (some (.int)) ∈ xTs := xt_3 42 rfl rfl
theorem xp_X4_find : (⟨"MirrorHeirs$Rows", "find", "(I)I"⟩ : MethodName).cls ≠ "java/lang/invoke/MethodHandle" ∧ (⟨"MirrorHeirs$Rows", "find", "(I)I"⟩ : MethodName).cls ≠ "java/lang/invoke/VarHandle" ∧ (parseMethodDescriptor (⟨"MirrorHeirs$Rows", "find", "(I)I"⟩ : MethodName).desc).map (fun d => d.parameters.length) = some 1 := by decide +kernel
theorem xs_X4_get : Cond.instanceMethod ⟨"MirrorHeirs$Rows", "get", "(II)I"⟩ ∈ xTs := xt_3 44 rfl rfl
theorem xq_X4_get : Cond.selects "MirrorHeirs$Rows" ⟨"MirrorHeirs$Rows", "get", "(II)I"⟩ ⟨"MirrorHeirs$Rows", "get", "(II)I"⟩ ∈ xTs := xt_3 45 rfl rfl
theorem xz_X4_get : Cond.initialized "MirrorHeirs$Rows" ∈ xTs := xt_1 3 rfl rfl
theorem xe_X4_get : Cond.code ⟨"MirrorHeirs$Rows", "get", "(II)I"⟩ prog_6_method_3_code 4 (some (.int)) ∈ xTs := xt_3 46 rfl rfl
theorem xp_X4_get : (⟨"MirrorHeirs$Rows", "get", "(II)I"⟩ : MethodName).cls ≠ "java/lang/invoke/MethodHandle" ∧ (⟨"MirrorHeirs$Rows", "get", "(II)I"⟩ : MethodName).cls ≠ "java/lang/invoke/VarHandle" ∧ (parseMethodDescriptor (⟨"MirrorHeirs$Rows", "get", "(II)I"⟩ : MethodName).desc).map (fun d => d.parameters.length) = some 2 := by decide +kernel
theorem xs_X4_has : Cond.instanceMethod ⟨"MirrorHeirs$Rows", "has", "(I)Z"⟩ ∈ xTs := xt_3 64 rfl rfl
theorem xq_X4_has : Cond.selects "MirrorHeirs$Rows" ⟨"MirrorHeirs$Rows", "has", "(I)Z"⟩ ⟨"MirrorHeirs$Rows", "has", "(I)Z"⟩ ∈ xTs := xt_3 65 rfl rfl
theorem xz_X4_has : Cond.initialized "MirrorHeirs$Rows" ∈ xTs := xt_1 3 rfl rfl
theorem xe_X4_has : Cond.code ⟨"MirrorHeirs$Rows", "has", "(I)Z"⟩ prog_6_method_2_code 2 (some (.boolean)) ∈ xTs := xt_3 66 rfl rfl
theorem xp_X4_has : (⟨"MirrorHeirs$Rows", "has", "(I)Z"⟩ : MethodName).cls ≠ "java/lang/invoke/MethodHandle" ∧ (⟨"MirrorHeirs$Rows", "has", "(I)Z"⟩ : MethodName).cls ≠ "java/lang/invoke/VarHandle" ∧ (parseMethodDescriptor (⟨"MirrorHeirs$Rows", "has", "(I)Z"⟩ : MethodName).desc).map (fun d => d.parameters.length) = some 1 := by decide +kernel
theorem xs_X4_init : Cond.instanceMethod ⟨"MirrorHeirs$Rows", "<init>", "(II)V"⟩ ∈ xTs := xt_1 39 rfl rfl
theorem xz_X4_init : Cond.initialized "MirrorHeirs$Rows" ∈ xTs := xt_1 3 rfl rfl
theorem xe_X4_init : Cond.code ⟨"MirrorHeirs$Rows", "<init>", "(II)V"⟩ prog_6_method_1_code 3 none ∈ xTs := xt_1 40 rfl rfl
theorem xp_X4_init : (⟨"MirrorHeirs$Rows", "<init>", "(II)V"⟩ : MethodName).cls ≠ "java/lang/invoke/MethodHandle" ∧ (⟨"MirrorHeirs$Rows", "<init>", "(II)V"⟩ : MethodName).cls ≠ "java/lang/invoke/VarHandle" ∧ (parseMethodDescriptor (⟨"MirrorHeirs$Rows", "<init>", "(II)V"⟩ : MethodName).desc).map (fun d => d.parameters.length) = some 2 := by decide +kernel
theorem xs_X4_set : Cond.instanceMethod ⟨"MirrorHeirs$Rows", "set", "(III)V"⟩ ∈ xTs := xt_3 99 rfl rfl
theorem xq_X4_set : Cond.selects "MirrorHeirs$Rows" ⟨"MirrorHeirs$Rows", "set", "(III)V"⟩ ⟨"MirrorHeirs$Rows", "set", "(III)V"⟩ ∈ xTs := xt_3 100 rfl rfl
theorem xz_X4_set : Cond.initialized "MirrorHeirs$Rows" ∈ xTs := xt_1 3 rfl rfl
theorem xe_X4_set : Cond.code ⟨"MirrorHeirs$Rows", "set", "(III)V"⟩ prog_6_method_4_code 5 none ∈ xTs := xt_3 101 rfl rfl
theorem xp_X4_set : (⟨"MirrorHeirs$Rows", "set", "(III)V"⟩ : MethodName).cls ≠ "java/lang/invoke/MethodHandle" ∧ (⟨"MirrorHeirs$Rows", "set", "(III)V"⟩ : MethodName).cls ≠ "java/lang/invoke/VarHandle" ∧ (parseMethodDescriptor (⟨"MirrorHeirs$Rows", "set", "(III)V"⟩ : MethodName).desc).map (fun d => d.parameters.length) = some 3 := by decide +kernel
theorem xs_X5_argue : Cond.instanceMethod ⟨"MirrorHeirs$Sets", "argue", "()Z"⟩ ∈ xTs := xt_6 140 rfl rfl
theorem xq_X5_argue : Cond.selects "MirrorHeirs$Sets" ⟨"MirrorHeirs$Sets", "argue", "()Z"⟩ ⟨"MirrorHeirs$Sets", "argue", "()Z"⟩ ∈ xTs := xt_6 141 rfl rfl
theorem xz_X5_argue : Cond.initialized "MirrorHeirs$Sets" ∈ xTs := xt_1 11 rfl rfl
theorem xe_X5_argue : Cond.code ⟨"MirrorHeirs$Sets", "argue", "()Z"⟩ prog_7_method_19_code 6 (some (.boolean)) ∈ xTs := xt_6 142 rfl rfl
theorem xp_X5_argue : (⟨"MirrorHeirs$Sets", "argue", "()Z"⟩ : MethodName).cls ≠ "java/lang/invoke/MethodHandle" ∧ (⟨"MirrorHeirs$Sets", "argue", "()Z"⟩ : MethodName).cls ≠ "java/lang/invoke/VarHandle" ∧ (parseMethodDescriptor (⟨"MirrorHeirs$Sets", "argue", "()Z"⟩ : MethodName).desc).map (fun d => d.parameters.length) = some 0 := by decide +kernel
theorem xs_X5_cheapest : Cond.instanceMethod ⟨"MirrorHeirs$Sets", "cheapest", "(III)I"⟩ ∈ xTs := xt_6 67 rfl rfl
theorem xq_X5_cheapest : Cond.selects "MirrorHeirs$Sets" ⟨"MirrorHeirs$Sets", "cheapest", "(III)I"⟩ ⟨"MirrorHeirs$Sets", "cheapest", "(III)I"⟩ ∈ xTs := xt_6 68 rfl rfl
theorem xz_X5_cheapest : Cond.initialized "MirrorHeirs$Sets" ∈ xTs := xt_1 11 rfl rfl
theorem xe_X5_cheapest : Cond.code ⟨"MirrorHeirs$Sets", "cheapest", "(III)I"⟩ prog_7_method_17_code 7 (some (.int)) ∈ xTs := xt_6 69 rfl rfl
theorem xp_X5_cheapest : (⟨"MirrorHeirs$Sets", "cheapest", "(III)I"⟩ : MethodName).cls ≠ "java/lang/invoke/MethodHandle" ∧ (⟨"MirrorHeirs$Sets", "cheapest", "(III)I"⟩ : MethodName).cls ≠ "java/lang/invoke/VarHandle" ∧ (parseMethodDescriptor (⟨"MirrorHeirs$Sets", "cheapest", "(III)I"⟩ : MethodName).desc).map (fun d => d.parameters.length) = some 3 := by decide +kernel
theorem xs_X5_estateIn : Cond.instanceMethod ⟨"MirrorHeirs$Sets", "estateIn", "(II)I"⟩ ∈ xTs := xt_6 123 rfl rfl
theorem xq_X5_estateIn : Cond.selects "MirrorHeirs$Sets" ⟨"MirrorHeirs$Sets", "estateIn", "(II)I"⟩ ⟨"MirrorHeirs$Sets", "estateIn", "(II)I"⟩ ∈ xTs := xp4 1 rfl
theorem xz_X5_estateIn : Cond.initialized "MirrorHeirs$Sets" ∈ xTs := xt_1 11 rfl rfl
theorem xe_X5_estateIn : Cond.code ⟨"MirrorHeirs$Sets", "estateIn", "(II)I"⟩ prog_7_method_8_code 4 (some (.int)) ∈ xTs := xt_6 124 rfl rfl
theorem xp_X5_estateIn : (⟨"MirrorHeirs$Sets", "estateIn", "(II)I"⟩ : MethodName).cls ≠ "java/lang/invoke/MethodHandle" ∧ (⟨"MirrorHeirs$Sets", "estateIn", "(II)I"⟩ : MethodName).cls ≠ "java/lang/invoke/VarHandle" ∧ (parseMethodDescriptor (⟨"MirrorHeirs$Sets", "estateIn", "(II)I"⟩ : MethodName).desc).map (fun d => d.parameters.length) = some 2 := by decide +kernel
theorem xs_X5_estatesIn : Cond.instanceMethod ⟨"MirrorHeirs$Sets", "estatesIn", "(I)V"⟩ ∈ xTs := xt_6 115 rfl rfl
theorem xq_X5_estatesIn : Cond.selects "MirrorHeirs$Sets" ⟨"MirrorHeirs$Sets", "estatesIn", "(I)V"⟩ ⟨"MirrorHeirs$Sets", "estatesIn", "(I)V"⟩ ∈ xTs := xp3 15 rfl
theorem xz_X5_estatesIn : Cond.initialized "MirrorHeirs$Sets" ∈ xTs := xt_1 11 rfl rfl
theorem xe_X5_estatesIn : Cond.code ⟨"MirrorHeirs$Sets", "estatesIn", "(I)V"⟩ prog_7_method_6_code 5 none ∈ xTs := xt_6 116 rfl rfl
theorem xp_X5_estatesIn : (⟨"MirrorHeirs$Sets", "estatesIn", "(I)V"⟩ : MethodName).cls ≠ "java/lang/invoke/MethodHandle" ∧ (⟨"MirrorHeirs$Sets", "estatesIn", "(I)V"⟩ : MethodName).cls ≠ "java/lang/invoke/VarHandle" ∧ (parseMethodDescriptor (⟨"MirrorHeirs$Sets", "estatesIn", "(I)V"⟩ : MethodName).desc).map (fun d => d.parameters.length) = some 1 := by decide +kernel
theorem xs_X5_fewestBits : Cond.instanceMethod ⟨"MirrorHeirs$Sets", "fewestBits", "()I"⟩ ∈ xTs := xt_6 29 rfl rfl
theorem xq_X5_fewestBits : Cond.selects "MirrorHeirs$Sets" ⟨"MirrorHeirs$Sets", "fewestBits", "()I"⟩ ⟨"MirrorHeirs$Sets", "fewestBits", "()I"⟩ ∈ xTs := xt_6 30 rfl rfl
theorem xz_X5_fewestBits : Cond.initialized "MirrorHeirs$Sets" ∈ xTs := xt_1 11 rfl rfl
theorem xe_X5_fewestBits : Cond.code ⟨"MirrorHeirs$Sets", "fewestBits", "()I"⟩ prog_7_method_16_code 2 (some (.int)) ∈ xTs := xt_6 31 rfl rfl
theorem xp_X5_fewestBits : (⟨"MirrorHeirs$Sets", "fewestBits", "()I"⟩ : MethodName).cls ≠ "java/lang/invoke/MethodHandle" ∧ (⟨"MirrorHeirs$Sets", "fewestBits", "()I"⟩ : MethodName).cls ≠ "java/lang/invoke/VarHandle" ∧ (parseMethodDescriptor (⟨"MirrorHeirs$Sets", "fewestBits", "()I"⟩ : MethodName).desc).map (fun d => d.parameters.length) = some 0 := by decide +kernel
theorem xs_X5_fitCount : Cond.instanceMethod ⟨"MirrorHeirs$Sets", "fitCount", "()I"⟩ ∈ xTs := xt_6 25 rfl rfl
theorem xq_X5_fitCount : Cond.selects "MirrorHeirs$Sets" ⟨"MirrorHeirs$Sets", "fitCount", "()I"⟩ ⟨"MirrorHeirs$Sets", "fitCount", "()I"⟩ ∈ xTs := xt_6 26 rfl rfl
theorem xz_X5_fitCount : Cond.initialized "MirrorHeirs$Sets" ∈ xTs := xt_1 11 rfl rfl
theorem xe_X5_fitCount : Cond.code ⟨"MirrorHeirs$Sets", "fitCount", "()I"⟩ prog_7_method_14_code 3 (some (.int)) ∈ xTs := xt_6 27 rfl rfl
theorem xp_X5_fitCount : (⟨"MirrorHeirs$Sets", "fitCount", "()I"⟩ : MethodName).cls ≠ "java/lang/invoke/MethodHandle" ∧ (⟨"MirrorHeirs$Sets", "fitCount", "()I"⟩ : MethodName).cls ≠ "java/lang/invoke/VarHandle" ∧ (parseMethodDescriptor (⟨"MirrorHeirs$Sets", "fitCount", "()I"⟩ : MethodName).desc).map (fun d => d.parameters.length) = some 0 := by decide +kernel
theorem xs_X5_fitPeace : Cond.instanceMethod ⟨"MirrorHeirs$Sets", "fitPeace", "()V"⟩ ∈ xTs := xt_6 128 rfl rfl
theorem xq_X5_fitPeace : Cond.selects "MirrorHeirs$Sets" ⟨"MirrorHeirs$Sets", "fitPeace", "()V"⟩ ⟨"MirrorHeirs$Sets", "fitPeace", "()V"⟩ ∈ xTs := xt_6 129 rfl rfl
theorem xz_X5_fitPeace : Cond.initialized "MirrorHeirs$Sets" ∈ xTs := xt_1 11 rfl rfl
theorem xe_X5_fitPeace : Cond.code ⟨"MirrorHeirs$Sets", "fitPeace", "()V"⟩ prog_7_method_12_code 3 none ∈ xTs := xt_6 130 rfl rfl
theorem xp_X5_fitPeace : (⟨"MirrorHeirs$Sets", "fitPeace", "()V"⟩ : MethodName).cls ≠ "java/lang/invoke/MethodHandle" ∧ (⟨"MirrorHeirs$Sets", "fitPeace", "()V"⟩ : MethodName).cls ≠ "java/lang/invoke/VarHandle" ∧ (parseMethodDescriptor (⟨"MirrorHeirs$Sets", "fitPeace", "()V"⟩ : MethodName).desc).map (fun d => d.parameters.length) = some 0 := by decide +kernel
theorem xs_X5_fitTellings : Cond.instanceMethod ⟨"MirrorHeirs$Sets", "fitTellings", "()V"⟩ ∈ xTs := xt_5 238 rfl rfl
theorem xq_X5_fitTellings : Cond.selects "MirrorHeirs$Sets" ⟨"MirrorHeirs$Sets", "fitTellings", "()V"⟩ ⟨"MirrorHeirs$Sets", "fitTellings", "()V"⟩ ∈ xTs := xt_5 239 rfl rfl
theorem xz_X5_fitTellings : Cond.initialized "MirrorHeirs$Sets" ∈ xTs := xt_1 11 rfl rfl
theorem xe_X5_fitTellings : Cond.code ⟨"MirrorHeirs$Sets", "fitTellings", "()V"⟩ prog_7_method_11_code 4 none ∈ xTs := xt_6 0 rfl rfl
theorem xp_X5_fitTellings : (⟨"MirrorHeirs$Sets", "fitTellings", "()V"⟩ : MethodName).cls ≠ "java/lang/invoke/MethodHandle" ∧ (⟨"MirrorHeirs$Sets", "fitTellings", "()V"⟩ : MethodName).cls ≠ "java/lang/invoke/VarHandle" ∧ (parseMethodDescriptor (⟨"MirrorHeirs$Sets", "fitTellings", "()V"⟩ : MethodName).desc).map (fun d => d.parameters.length) = some 0 := by decide +kernel
theorem xs_X5_glimpseIn : Cond.instanceMethod ⟨"MirrorHeirs$Sets", "glimpseIn", "(II)V"⟩ ∈ xTs := xt_6 110 rfl rfl
theorem xq_X5_glimpseIn : Cond.selects "MirrorHeirs$Sets" ⟨"MirrorHeirs$Sets", "glimpseIn", "(II)V"⟩ ⟨"MirrorHeirs$Sets", "glimpseIn", "(II)V"⟩ ∈ xTs := xp3 14 rfl
theorem xz_X5_glimpseIn : Cond.initialized "MirrorHeirs$Sets" ∈ xTs := xt_1 11 rfl rfl
theorem xe_X5_glimpseIn : Cond.code ⟨"MirrorHeirs$Sets", "glimpseIn", "(II)V"⟩ prog_7_method_4_code 6 none ∈ xTs := xt_6 111 rfl rfl
theorem xp_X5_glimpseIn : (⟨"MirrorHeirs$Sets", "glimpseIn", "(II)V"⟩ : MethodName).cls ≠ "java/lang/invoke/MethodHandle" ∧ (⟨"MirrorHeirs$Sets", "glimpseIn", "(II)V"⟩ : MethodName).cls ≠ "java/lang/invoke/VarHandle" ∧ (parseMethodDescriptor (⟨"MirrorHeirs$Sets", "glimpseIn", "(II)V"⟩ : MethodName).desc).map (fun d => d.parameters.length) = some 2 := by decide +kernel
theorem xs_X5_init : Cond.instanceMethod ⟨"MirrorHeirs$Sets", "<init>", "(LMirrorHeirs$Hall;LMirrorHeirs$Sight;LMirrorHeirs$Shares;)V"⟩ ∈ xTs := xt_2 72 rfl rfl
theorem xz_X5_init : Cond.initialized "MirrorHeirs$Sets" ∈ xTs := xt_1 11 rfl rfl
theorem xe_X5_init : Cond.code ⟨"MirrorHeirs$Sets", "<init>", "(LMirrorHeirs$Hall;LMirrorHeirs$Sight;LMirrorHeirs$Shares;)V"⟩ prog_7_method_1_code 4 none ∈ xTs := xt_2 73 rfl rfl
theorem xp_X5_init : (⟨"MirrorHeirs$Sets", "<init>", "(LMirrorHeirs$Hall;LMirrorHeirs$Sight;LMirrorHeirs$Shares;)V"⟩ : MethodName).cls ≠ "java/lang/invoke/MethodHandle" ∧ (⟨"MirrorHeirs$Sets", "<init>", "(LMirrorHeirs$Hall;LMirrorHeirs$Sight;LMirrorHeirs$Shares;)V"⟩ : MethodName).cls ≠ "java/lang/invoke/VarHandle" ∧ (parseMethodDescriptor (⟨"MirrorHeirs$Sets", "<init>", "(LMirrorHeirs$Hall;LMirrorHeirs$Sight;LMirrorHeirs$Shares;)V"⟩ : MethodName).desc).map (fun d => d.parameters.length) = some 3 := by decide +kernel
theorem xs_X5_lightIn : Cond.instanceMethod ⟨"MirrorHeirs$Sets", "lightIn", "(I)V"⟩ ∈ xTs := xt_6 105 rfl rfl
theorem xq_X5_lightIn : Cond.selects "MirrorHeirs$Sets" ⟨"MirrorHeirs$Sets", "lightIn", "(I)V"⟩ ⟨"MirrorHeirs$Sets", "lightIn", "(I)V"⟩ ∈ xTs := xp3 13 rfl
theorem xz_X5_lightIn : Cond.initialized "MirrorHeirs$Sets" ∈ xTs := xt_1 11 rfl rfl
theorem xe_X5_lightIn : Cond.code ⟨"MirrorHeirs$Sets", "lightIn", "(I)V"⟩ prog_7_method_5_code 2 none ∈ xTs := xt_6 106 rfl rfl
theorem xp_X5_lightIn : (⟨"MirrorHeirs$Sets", "lightIn", "(I)V"⟩ : MethodName).cls ≠ "java/lang/invoke/MethodHandle" ∧ (⟨"MirrorHeirs$Sets", "lightIn", "(I)V"⟩ : MethodName).cls ≠ "java/lang/invoke/VarHandle" ∧ (parseMethodDescriptor (⟨"MirrorHeirs$Sets", "lightIn", "(I)V"⟩ : MethodName).desc).map (fun d => d.parameters.length) = some 1 := by decide +kernel
theorem xs_X5_lowestOfFewest : Cond.instanceMethod ⟨"MirrorHeirs$Sets", "lowestOfFewest", "()I"⟩ ∈ xTs := xt_6 33 rfl rfl
theorem xq_X5_lowestOfFewest : Cond.selects "MirrorHeirs$Sets" ⟨"MirrorHeirs$Sets", "lowestOfFewest", "()I"⟩ ⟨"MirrorHeirs$Sets", "lowestOfFewest", "()I"⟩ ∈ xTs := xt_6 34 rfl rfl
theorem xz_X5_lowestOfFewest : Cond.initialized "MirrorHeirs$Sets" ∈ xTs := xt_1 11 rfl rfl
theorem xe_X5_lowestOfFewest : Cond.code ⟨"MirrorHeirs$Sets", "lowestOfFewest", "()I"⟩ prog_7_method_15_code 3 (some (.int)) ∈ xTs := xt_6 35 rfl rfl
theorem xp_X5_lowestOfFewest : (⟨"MirrorHeirs$Sets", "lowestOfFewest", "()I"⟩ : MethodName).cls ≠ "java/lang/invoke/MethodHandle" ∧ (⟨"MirrorHeirs$Sets", "lowestOfFewest", "()I"⟩ : MethodName).cls ≠ "java/lang/invoke/VarHandle" ∧ (parseMethodDescriptor (⟨"MirrorHeirs$Sets", "lowestOfFewest", "()I"⟩ : MethodName).desc).map (fun d => d.parameters.length) = some 0 := by decide +kernel
theorem xs_X5_prepare : Cond.instanceMethod ⟨"MirrorHeirs$Sets", "prepare", "()V"⟩ ∈ xTs := xt_6 99 rfl rfl
theorem xq_X5_prepare : Cond.selects "MirrorHeirs$Sets" ⟨"MirrorHeirs$Sets", "prepare", "()V"⟩ ⟨"MirrorHeirs$Sets", "prepare", "()V"⟩ ∈ xTs := xt_6 100 rfl rfl
theorem xz_X5_prepare : Cond.initialized "MirrorHeirs$Sets" ∈ xTs := xt_1 11 rfl rfl
theorem xe_X5_prepare : Cond.code ⟨"MirrorHeirs$Sets", "prepare", "()V"⟩ prog_7_method_3_code 5 none ∈ xTs := xt_6 101 rfl rfl
theorem xp_X5_prepare : (⟨"MirrorHeirs$Sets", "prepare", "()V"⟩ : MethodName).cls ≠ "java/lang/invoke/MethodHandle" ∧ (⟨"MirrorHeirs$Sets", "prepare", "()V"⟩ : MethodName).cls ≠ "java/lang/invoke/VarHandle" ∧ (parseMethodDescriptor (⟨"MirrorHeirs$Sets", "prepare", "()V"⟩ : MethodName).desc).map (fun d => d.parameters.length) = some 0 := by decide +kernel
theorem xs_X5_priceOf : Cond.instanceMethod ⟨"MirrorHeirs$Sets", "priceOf", "(I)I"⟩ ∈ xTs := xt_6 71 rfl rfl
theorem xq_X5_priceOf : Cond.selects "MirrorHeirs$Sets" ⟨"MirrorHeirs$Sets", "priceOf", "(I)I"⟩ ⟨"MirrorHeirs$Sets", "priceOf", "(I)I"⟩ ∈ xTs := xt_6 72 rfl rfl
theorem xz_X5_priceOf : Cond.initialized "MirrorHeirs$Sets" ∈ xTs := xt_1 11 rfl rfl
theorem xe_X5_priceOf : Cond.code ⟨"MirrorHeirs$Sets", "priceOf", "(I)I"⟩ prog_7_method_18_code 4 (some (.int)) ∈ xTs := xt_6 73 rfl rfl
theorem xp_X5_priceOf : (⟨"MirrorHeirs$Sets", "priceOf", "(I)I"⟩ : MethodName).cls ≠ "java/lang/invoke/MethodHandle" ∧ (⟨"MirrorHeirs$Sets", "priceOf", "(I)I"⟩ : MethodName).cls ≠ "java/lang/invoke/VarHandle" ∧ (parseMethodDescriptor (⟨"MirrorHeirs$Sets", "priceOf", "(I)I"⟩ : MethodName).desc).map (fun d => d.parameters.length) = some 1 := by decide +kernel
theorem xs_X5_sameAs : Cond.instanceMethod ⟨"MirrorHeirs$Sets", "sameAs", "(I)I"⟩ ∈ xTs := xt_6 119 rfl rfl
theorem xq_X5_sameAs : Cond.selects "MirrorHeirs$Sets" ⟨"MirrorHeirs$Sets", "sameAs", "(I)I"⟩ ⟨"MirrorHeirs$Sets", "sameAs", "(I)I"⟩ ∈ xTs := xp4 0 rfl
theorem xz_X5_sameAs : Cond.initialized "MirrorHeirs$Sets" ∈ xTs := xt_1 11 rfl rfl
theorem xe_X5_sameAs : Cond.code ⟨"MirrorHeirs$Sets", "sameAs", "(I)I"⟩ prog_7_method_7_code 8 (some (.int)) ∈ xTs := xt_6 120 rfl rfl
theorem xp_X5_sameAs : (⟨"MirrorHeirs$Sets", "sameAs", "(I)I"⟩ : MethodName).cls ≠ "java/lang/invoke/MethodHandle" ∧ (⟨"MirrorHeirs$Sets", "sameAs", "(I)I"⟩ : MethodName).cls ≠ "java/lang/invoke/VarHandle" ∧ (parseMethodDescriptor (⟨"MirrorHeirs$Sets", "sameAs", "(I)I"⟩ : MethodName).desc).map (fun d => d.parameters.length) = some 1 := by decide +kernel
theorem xs_X5_setCount : Cond.instanceMethod ⟨"MirrorHeirs$Sets", "setCount", "()I"⟩ ∈ xTs := xt_6 9 rfl rfl
theorem xq_X5_setCount : Cond.selects "MirrorHeirs$Sets" ⟨"MirrorHeirs$Sets", "setCount", "()I"⟩ ⟨"MirrorHeirs$Sets", "setCount", "()I"⟩ ∈ xTs := xp3 11 rfl
theorem xz_X5_setCount : Cond.initialized "MirrorHeirs$Sets" ∈ xTs := xt_1 11 rfl rfl
theorem xe_X5_setCount : Cond.code ⟨"MirrorHeirs$Sets", "setCount", "()I"⟩ prog_7_method_2_code 1 (some (.int)) ∈ xTs := xt_6 10 rfl rfl
theorem xp_X5_setCount : (⟨"MirrorHeirs$Sets", "setCount", "()I"⟩ : MethodName).cls ≠ "java/lang/invoke/MethodHandle" ∧ (⟨"MirrorHeirs$Sets", "setCount", "()I"⟩ : MethodName).cls ≠ "java/lang/invoke/VarHandle" ∧ (parseMethodDescriptor (⟨"MirrorHeirs$Sets", "setCount", "()I"⟩ : MethodName).desc).map (fun d => d.parameters.length) = some 0 := by decide +kernel
theorem xs_X5_trace : Cond.instanceMethod ⟨"MirrorHeirs$Sets", "trace", "(II)V"⟩ ∈ xTs := xt_6 5 rfl rfl
theorem xq_X5_trace : Cond.selects "MirrorHeirs$Sets" ⟨"MirrorHeirs$Sets", "trace", "(II)V"⟩ ⟨"MirrorHeirs$Sets", "trace", "(II)V"⟩ ∈ xTs := xp3 10 rfl
theorem xz_X5_trace : Cond.initialized "MirrorHeirs$Sets" ∈ xTs := xt_1 11 rfl rfl
theorem xe_X5_trace : Cond.code ⟨"MirrorHeirs$Sets", "trace", "(II)V"⟩ prog_7_method_9_code 7 none ∈ xTs := xt_6 6 rfl rfl
theorem xp_X5_trace : (⟨"MirrorHeirs$Sets", "trace", "(II)V"⟩ : MethodName).cls ≠ "java/lang/invoke/MethodHandle" ∧ (⟨"MirrorHeirs$Sets", "trace", "(II)V"⟩ : MethodName).cls ≠ "java/lang/invoke/VarHandle" ∧ (parseMethodDescriptor (⟨"MirrorHeirs$Sets", "trace", "(II)V"⟩ : MethodName).desc).map (fun d => d.parameters.length) = some 2 := by decide +kernel
theorem xs_X5_traced : Cond.instanceMethod ⟨"MirrorHeirs$Sets", "traced", "(I)I"⟩ ∈ xTs := xt_6 22 rfl rfl
theorem xq_X5_traced : Cond.selects "MirrorHeirs$Sets" ⟨"MirrorHeirs$Sets", "traced", "(I)I"⟩ ⟨"MirrorHeirs$Sets", "traced", "(I)I"⟩ ∈ xTs := xp3 12 rfl
theorem xz_X5_traced : Cond.initialized "MirrorHeirs$Sets" ∈ xTs := xt_1 11 rfl rfl
theorem xe_X5_traced : Cond.code ⟨"MirrorHeirs$Sets", "traced", "(I)I"⟩ prog_7_method_10_code 2 (some (.int)) ∈ xTs := xt_6 23 rfl rfl
theorem xp_X5_traced : (⟨"MirrorHeirs$Sets", "traced", "(I)I"⟩ : MethodName).cls ≠ "java/lang/invoke/MethodHandle" ∧ (⟨"MirrorHeirs$Sets", "traced", "(I)I"⟩ : MethodName).cls ≠ "java/lang/invoke/VarHandle" ∧ (parseMethodDescriptor (⟨"MirrorHeirs$Sets", "traced", "(I)I"⟩ : MethodName).desc).map (fun d => d.parameters.length) = some 1 := by decide +kernel
theorem xs_X5_wish : Cond.instanceMethod ⟨"MirrorHeirs$Sets", "wish", "(II)I"⟩ ∈ xTs := xt_6 133 rfl rfl
theorem xq_X5_wish : Cond.selects "MirrorHeirs$Sets" ⟨"MirrorHeirs$Sets", "wish", "(II)I"⟩ ⟨"MirrorHeirs$Sets", "wish", "(II)I"⟩ ∈ xTs := xp4 2 rfl
theorem xz_X5_wish : Cond.initialized "MirrorHeirs$Sets" ∈ xTs := xt_1 11 rfl rfl
theorem xe_X5_wish : Cond.code ⟨"MirrorHeirs$Sets", "wish", "(II)I"⟩ prog_7_method_13_code 6 (some (.int)) ∈ xTs := xt_6 134 rfl rfl
theorem xp_X5_wish : (⟨"MirrorHeirs$Sets", "wish", "(II)I"⟩ : MethodName).cls ≠ "java/lang/invoke/MethodHandle" ∧ (⟨"MirrorHeirs$Sets", "wish", "(II)I"⟩ : MethodName).cls ≠ "java/lang/invoke/VarHandle" ∧ (parseMethodDescriptor (⟨"MirrorHeirs$Sets", "wish", "(II)I"⟩ : MethodName).desc).map (fun d => d.parameters.length) = some 2 := by decide +kernel
theorem xs_X6_asked : Cond.instanceMethod ⟨"MirrorHeirs$Shares", "asked", "(II)I"⟩ ∈ xTs := xt_5 61 rfl rfl
theorem xq_X6_asked : Cond.selects "MirrorHeirs$Shares" ⟨"MirrorHeirs$Shares", "asked", "(II)I"⟩ ⟨"MirrorHeirs$Shares", "asked", "(II)I"⟩ ∈ xTs := xp3 1 rfl
theorem xz_X6_asked : Cond.initialized "MirrorHeirs$Shares" ∈ xTs := xt_1 8 rfl rfl
theorem xe_X6_asked : Cond.code ⟨"MirrorHeirs$Shares", "asked", "(II)I"⟩ prog_8_method_10_code 10 (some (.int)) ∈ xTs := xt_5 62 rfl rfl
theorem xp_X6_asked : (⟨"MirrorHeirs$Shares", "asked", "(II)I"⟩ : MethodName).cls ≠ "java/lang/invoke/MethodHandle" ∧ (⟨"MirrorHeirs$Shares", "asked", "(II)I"⟩ : MethodName).cls ≠ "java/lang/invoke/VarHandle" ∧ (parseMethodDescriptor (⟨"MirrorHeirs$Shares", "asked", "(II)I"⟩ : MethodName).desc).map (fun d => d.parameters.length) = some 2 := by decide +kernel
theorem xs_X6_claimants : Cond.instanceMethod ⟨"MirrorHeirs$Shares", "claimants", "(I)I"⟩ ∈ xTs := xt_5 164 rfl rfl
theorem xq_X6_claimants : Cond.selects "MirrorHeirs$Shares" ⟨"MirrorHeirs$Shares", "claimants", "(I)I"⟩ ⟨"MirrorHeirs$Shares", "claimants", "(I)I"⟩ ∈ xTs := xt_5 165 rfl rfl
theorem xz_X6_claimants : Cond.initialized "MirrorHeirs$Shares" ∈ xTs := xt_1 8 rfl rfl
theorem xe_X6_claimants : Cond.code ⟨"MirrorHeirs$Shares", "claimants", "(I)I"⟩ prog_8_method_14_code 4 (some (.int)) ∈ xTs := xt_5 166 rfl rfl
theorem xp_X6_claimants : (⟨"MirrorHeirs$Shares", "claimants", "(I)I"⟩ : MethodName).cls ≠ "java/lang/invoke/MethodHandle" ∧ (⟨"MirrorHeirs$Shares", "claimants", "(I)I"⟩ : MethodName).cls ≠ "java/lang/invoke/VarHandle" ∧ (parseMethodDescriptor (⟨"MirrorHeirs$Shares", "claimants", "(I)I"⟩ : MethodName).desc).map (fun d => d.parameters.length) = some 1 := by decide +kernel
theorem xs_X6_claimed : Cond.instanceMethod ⟨"MirrorHeirs$Shares", "claimed", "(II)I"⟩ ∈ xTs := xt_5 79 rfl rfl
theorem xq_X6_claimed : Cond.selects "MirrorHeirs$Shares" ⟨"MirrorHeirs$Shares", "claimed", "(II)I"⟩ ⟨"MirrorHeirs$Shares", "claimed", "(II)I"⟩ ∈ xTs := xt_5 80 rfl rfl
theorem xz_X6_claimed : Cond.initialized "MirrorHeirs$Shares" ∈ xTs := xt_1 8 rfl rfl
theorem xe_X6_claimed : Cond.code ⟨"MirrorHeirs$Shares", "claimed", "(II)I"⟩ prog_8_method_12_code 4 (some (.int)) ∈ xTs := xt_5 81 rfl rfl
theorem xp_X6_claimed : (⟨"MirrorHeirs$Shares", "claimed", "(II)I"⟩ : MethodName).cls ≠ "java/lang/invoke/MethodHandle" ∧ (⟨"MirrorHeirs$Shares", "claimed", "(II)I"⟩ : MethodName).cls ≠ "java/lang/invoke/VarHandle" ∧ (parseMethodDescriptor (⟨"MirrorHeirs$Shares", "claimed", "(II)I"⟩ : MethodName).desc).map (fun d => d.parameters.length) = some 2 := by decide +kernel
theorem xs_X6_describe : Cond.instanceMethod ⟨"MirrorHeirs$Shares", "describe", "(II)V"⟩ ∈ xTs := xt_5 66 rfl rfl
theorem xq_X6_describe : Cond.selects "MirrorHeirs$Shares" ⟨"MirrorHeirs$Shares", "describe", "(II)V"⟩ ⟨"MirrorHeirs$Shares", "describe", "(II)V"⟩ ∈ xTs := xp3 2 rfl
theorem xz_X6_describe : Cond.initialized "MirrorHeirs$Shares" ∈ xTs := xt_1 8 rfl rfl
theorem xe_X6_describe : Cond.code ⟨"MirrorHeirs$Shares", "describe", "(II)V"⟩ prog_8_method_11_code 4 none ∈ xTs := xt_5 67 rfl rfl
theorem xp_X6_describe : (⟨"MirrorHeirs$Shares", "describe", "(II)V"⟩ : MethodName).cls ≠ "java/lang/invoke/MethodHandle" ∧ (⟨"MirrorHeirs$Shares", "describe", "(II)V"⟩ : MethodName).cls ≠ "java/lang/invoke/VarHandle" ∧ (parseMethodDescriptor (⟨"MirrorHeirs$Shares", "describe", "(II)V"⟩ : MethodName).desc).map (fun d => d.parameters.length) = some 2 := by decide +kernel
theorem xs_X6_divide : Cond.instanceMethod ⟨"MirrorHeirs$Shares", "divide", "()V"⟩ ∈ xTs := xt_5 46 rfl rfl
theorem xq_X6_divide : Cond.selects "MirrorHeirs$Shares" ⟨"MirrorHeirs$Shares", "divide", "()V"⟩ ⟨"MirrorHeirs$Shares", "divide", "()V"⟩ ∈ xTs := xt_5 47 rfl rfl
theorem xz_X6_divide : Cond.initialized "MirrorHeirs$Shares" ∈ xTs := xt_1 8 rfl rfl
theorem xe_X6_divide : Cond.code ⟨"MirrorHeirs$Shares", "divide", "()V"⟩ prog_8_method_9_code 4 none ∈ xTs := xt_5 48 rfl rfl
theorem xp_X6_divide : (⟨"MirrorHeirs$Shares", "divide", "()V"⟩ : MethodName).cls ≠ "java/lang/invoke/MethodHandle" ∧ (⟨"MirrorHeirs$Shares", "divide", "()V"⟩ : MethodName).cls ≠ "java/lang/invoke/VarHandle" ∧ (parseMethodDescriptor (⟨"MirrorHeirs$Shares", "divide", "()V"⟩ : MethodName).desc).map (fun d => d.parameters.length) = some 0 := by decide +kernel
theorem xs_X6_estateOf : Cond.instanceMethod ⟨"MirrorHeirs$Shares", "estateOf", "(I)I"⟩ ∈ xTs := xt_5 87 rfl rfl
theorem xq_X6_estateOf : Cond.selects "MirrorHeirs$Shares" ⟨"MirrorHeirs$Shares", "estateOf", "(I)I"⟩ ⟨"MirrorHeirs$Shares", "estateOf", "(I)I"⟩ ∈ xTs := xt_5 88 rfl rfl
theorem xz_X6_estateOf : Cond.initialized "MirrorHeirs$Shares" ∈ xTs := xt_1 8 rfl rfl
theorem xe_X6_estateOf : Cond.code ⟨"MirrorHeirs$Shares", "estateOf", "(I)I"⟩ prog_8_method_15_code 2 (some (.int)) ∈ xTs := xt_5 89 rfl rfl
theorem xp_X6_estateOf : (⟨"MirrorHeirs$Shares", "estateOf", "(I)I"⟩ : MethodName).cls ≠ "java/lang/invoke/MethodHandle" ∧ (⟨"MirrorHeirs$Shares", "estateOf", "(I)I"⟩ : MethodName).cls ≠ "java/lang/invoke/VarHandle" ∧ (parseMethodDescriptor (⟨"MirrorHeirs$Shares", "estateOf", "(I)I"⟩ : MethodName).desc).map (fun d => d.parameters.length) = some 1 := by decide +kernel
theorem xs_X6_inPair : Cond.instanceMethod ⟨"MirrorHeirs$Shares", "inPair", "(I)Z"⟩ ∈ xTs := xt_5 52 rfl rfl
theorem xq_X6_inPair : Cond.selects "MirrorHeirs$Shares" ⟨"MirrorHeirs$Shares", "inPair", "(I)Z"⟩ ⟨"MirrorHeirs$Shares", "inPair", "(I)Z"⟩ ∈ xTs := xp3 0 rfl
theorem xz_X6_inPair : Cond.initialized "MirrorHeirs$Shares" ∈ xTs := xt_1 8 rfl rfl
theorem xe_X6_inPair : Cond.code ⟨"MirrorHeirs$Shares", "inPair", "(I)Z"⟩ prog_8_method_8_code 3 (some (.boolean)) ∈ xTs := xt_5 53 rfl rfl
theorem xp_X6_inPair : (⟨"MirrorHeirs$Shares", "inPair", "(I)Z"⟩ : MethodName).cls ≠ "java/lang/invoke/MethodHandle" ∧ (⟨"MirrorHeirs$Shares", "inPair", "(I)Z"⟩ : MethodName).cls ≠ "java/lang/invoke/VarHandle" ∧ (parseMethodDescriptor (⟨"MirrorHeirs$Shares", "inPair", "(I)Z"⟩ : MethodName).desc).map (fun d => d.parameters.length) = some 1 := by decide +kernel
theorem xs_X6_init : Cond.instanceMethod ⟨"MirrorHeirs$Shares", "<init>", "(LMirrorHeirs$Hall;LMirrorHeirs$Sight;)V"⟩ ∈ xTs := xt_1 190 rfl rfl
theorem xz_X6_init : Cond.initialized "MirrorHeirs$Shares" ∈ xTs := xt_1 8 rfl rfl
theorem xe_X6_init : Cond.code ⟨"MirrorHeirs$Shares", "<init>", "(LMirrorHeirs$Hall;LMirrorHeirs$Sight;)V"⟩ prog_8_method_1_code 3 none ∈ xTs := xt_1 191 rfl rfl
theorem xp_X6_init : (⟨"MirrorHeirs$Shares", "<init>", "(LMirrorHeirs$Hall;LMirrorHeirs$Sight;)V"⟩ : MethodName).cls ≠ "java/lang/invoke/MethodHandle" ∧ (⟨"MirrorHeirs$Shares", "<init>", "(LMirrorHeirs$Hall;LMirrorHeirs$Sight;)V"⟩ : MethodName).cls ≠ "java/lang/invoke/VarHandle" ∧ (parseMethodDescriptor (⟨"MirrorHeirs$Shares", "<init>", "(LMirrorHeirs$Hall;LMirrorHeirs$Sight;)V"⟩ : MethodName).desc).map (fun d => d.parameters.length) = some 2 := by decide +kernel
theorem xs_X6_kindle : Cond.instanceMethod ⟨"MirrorHeirs$Shares", "kindle", "(LMirrorHeirs$Rows;)V"⟩ ∈ xTs := xt_4 210 rfl rfl
theorem xq_X6_kindle : Cond.selects "MirrorHeirs$Shares" ⟨"MirrorHeirs$Shares", "kindle", "(LMirrorHeirs$Rows;)V"⟩ ⟨"MirrorHeirs$Shares", "kindle", "(LMirrorHeirs$Rows;)V"⟩ ∈ xTs := xt_4 211 rfl rfl
theorem xz_X6_kindle : Cond.initialized "MirrorHeirs$Shares" ∈ xTs := xt_1 8 rfl rfl
theorem xe_X6_kindle : Cond.code ⟨"MirrorHeirs$Shares", "kindle", "(LMirrorHeirs$Rows;)V"⟩ prog_8_method_2_code 3 none ∈ xTs := xt_4 212 rfl rfl
theorem xp_X6_kindle : (⟨"MirrorHeirs$Shares", "kindle", "(LMirrorHeirs$Rows;)V"⟩ : MethodName).cls ≠ "java/lang/invoke/MethodHandle" ∧ (⟨"MirrorHeirs$Shares", "kindle", "(LMirrorHeirs$Rows;)V"⟩ : MethodName).cls ≠ "java/lang/invoke/VarHandle" ∧ (parseMethodDescriptor (⟨"MirrorHeirs$Shares", "kindle", "(LMirrorHeirs$Rows;)V"⟩ : MethodName).desc).map (fun d => d.parameters.length) = some 1 := by decide +kernel
theorem xs_X6_measure : Cond.instanceMethod ⟨"MirrorHeirs$Shares", "measure", "()V"⟩ ∈ xTs := xt_5 33 rfl rfl
theorem xq_X6_measure : Cond.selects "MirrorHeirs$Shares" ⟨"MirrorHeirs$Shares", "measure", "()V"⟩ ⟨"MirrorHeirs$Shares", "measure", "()V"⟩ ∈ xTs := xt_5 34 rfl rfl
theorem xz_X6_measure : Cond.initialized "MirrorHeirs$Shares" ∈ xTs := xt_1 8 rfl rfl
theorem xe_X6_measure : Cond.code ⟨"MirrorHeirs$Shares", "measure", "()V"⟩ prog_8_method_4_code 2 none ∈ xTs := xt_5 35 rfl rfl
theorem xp_X6_measure : (⟨"MirrorHeirs$Shares", "measure", "()V"⟩ : MethodName).cls ≠ "java/lang/invoke/MethodHandle" ∧ (⟨"MirrorHeirs$Shares", "measure", "()V"⟩ : MethodName).cls ≠ "java/lang/invoke/VarHandle" ∧ (parseMethodDescriptor (⟨"MirrorHeirs$Shares", "measure", "()V"⟩ : MethodName).desc).map (fun d => d.parameters.length) = some 0 := by decide +kernel
theorem xs_X6_metPivots : Cond.instanceMethod ⟨"MirrorHeirs$Shares", "metPivots", "()I"⟩ ∈ xTs := xt_5 42 rfl rfl
theorem xq_X6_metPivots : Cond.selects "MirrorHeirs$Shares" ⟨"MirrorHeirs$Shares", "metPivots", "()I"⟩ ⟨"MirrorHeirs$Shares", "metPivots", "()I"⟩ ∈ xTs := xt_5 43 rfl rfl
theorem xz_X6_metPivots : Cond.initialized "MirrorHeirs$Shares" ∈ xTs := xt_1 8 rfl rfl
theorem xe_X6_metPivots : Cond.code ⟨"MirrorHeirs$Shares", "metPivots", "()I"⟩ prog_8_method_6_code 3 (some (.int)) ∈ xTs := xt_5 44 rfl rfl
theorem xp_X6_metPivots : (⟨"MirrorHeirs$Shares", "metPivots", "()I"⟩ : MethodName).cls ≠ "java/lang/invoke/MethodHandle" ∧ (⟨"MirrorHeirs$Shares", "metPivots", "()I"⟩ : MethodName).cls ≠ "java/lang/invoke/VarHandle" ∧ (parseMethodDescriptor (⟨"MirrorHeirs$Shares", "metPivots", "()I"⟩ : MethodName).desc).map (fun d => d.parameters.length) = some 0 := by decide +kernel
theorem xs_X6_packed : Cond.instanceMethod ⟨"MirrorHeirs$Shares", "packed", "()J"⟩ ∈ xTs := xt_5 37 rfl rfl
theorem xq_X6_packed : Cond.selects "MirrorHeirs$Shares" ⟨"MirrorHeirs$Shares", "packed", "()J"⟩ ⟨"MirrorHeirs$Shares", "packed", "()J"⟩ ∈ xTs := xt_5 38 rfl rfl
theorem xz_X6_packed : Cond.initialized "MirrorHeirs$Shares" ∈ xTs := xt_1 8 rfl rfl
theorem xe_X6_packed : Cond.code ⟨"MirrorHeirs$Shares", "packed", "()J"⟩ prog_8_method_5_code 6 (some (.long)) ∈ xTs := xt_5 39 rfl rfl
theorem xp_X6_packed : (⟨"MirrorHeirs$Shares", "packed", "()J"⟩ : MethodName).cls ≠ "java/lang/invoke/MethodHandle" ∧ (⟨"MirrorHeirs$Shares", "packed", "()J"⟩ : MethodName).cls ≠ "java/lang/invoke/VarHandle" ∧ (parseMethodDescriptor (⟨"MirrorHeirs$Shares", "packed", "()J"⟩ : MethodName).desc).map (fun d => d.parameters.length) = some 0 := by decide +kernel
theorem xs_X6_rent : Cond.instanceMethod ⟨"MirrorHeirs$Shares", "rent", "()I"⟩ ∈ xTs := xt_5 83 rfl rfl
theorem xq_X6_rent : Cond.selects "MirrorHeirs$Shares" ⟨"MirrorHeirs$Shares", "rent", "()I"⟩ ⟨"MirrorHeirs$Shares", "rent", "()I"⟩ ∈ xTs := xt_5 84 rfl rfl
theorem xz_X6_rent : Cond.initialized "MirrorHeirs$Shares" ∈ xTs := xt_1 8 rfl rfl
theorem xe_X6_rent : Cond.code ⟨"MirrorHeirs$Shares", "rent", "()I"⟩ prog_8_method_3_code 3 (some (.int)) ∈ xTs := xt_5 85 rfl rfl
theorem xp_X6_rent : (⟨"MirrorHeirs$Shares", "rent", "()I"⟩ : MethodName).cls ≠ "java/lang/invoke/MethodHandle" ∧ (⟨"MirrorHeirs$Shares", "rent", "()I"⟩ : MethodName).cls ≠ "java/lang/invoke/VarHandle" ∧ (parseMethodDescriptor (⟨"MirrorHeirs$Shares", "rent", "()I"⟩ : MethodName).desc).map (fun d => d.parameters.length) = some 0 := by decide +kernel
theorem xs_X6_seenBy : Cond.instanceMethod ⟨"MirrorHeirs$Shares", "seenBy", "(II)I"⟩ ∈ xTs := xt_5 55 rfl rfl
theorem xq_X6_seenBy : Cond.selects "MirrorHeirs$Shares" ⟨"MirrorHeirs$Shares", "seenBy", "(II)I"⟩ ⟨"MirrorHeirs$Shares", "seenBy", "(II)I"⟩ ∈ xTs := xt_5 56 rfl rfl
theorem xz_X6_seenBy : Cond.initialized "MirrorHeirs$Shares" ∈ xTs := xt_1 8 rfl rfl
theorem xe_X6_seenBy : Cond.code ⟨"MirrorHeirs$Shares", "seenBy", "(II)I"⟩ prog_8_method_7_code 3 (some (.int)) ∈ xTs := xt_5 57 rfl rfl
theorem xp_X6_seenBy : (⟨"MirrorHeirs$Shares", "seenBy", "(II)I"⟩ : MethodName).cls ≠ "java/lang/invoke/MethodHandle" ∧ (⟨"MirrorHeirs$Shares", "seenBy", "(II)I"⟩ : MethodName).cls ≠ "java/lang/invoke/VarHandle" ∧ (parseMethodDescriptor (⟨"MirrorHeirs$Shares", "seenBy", "(II)I"⟩ : MethodName).desc).map (fun d => d.parameters.length) = some 2 := by decide +kernel
theorem xs_X6_total : Cond.instanceMethod ⟨"MirrorHeirs$Shares", "total", "(I)I"⟩ ∈ xTs := xt_5 75 rfl rfl
theorem xq_X6_total : Cond.selects "MirrorHeirs$Shares" ⟨"MirrorHeirs$Shares", "total", "(I)I"⟩ ⟨"MirrorHeirs$Shares", "total", "(I)I"⟩ ∈ xTs := xt_5 76 rfl rfl
theorem xz_X6_total : Cond.initialized "MirrorHeirs$Shares" ∈ xTs := xt_1 8 rfl rfl
theorem xe_X6_total : Cond.code ⟨"MirrorHeirs$Shares", "total", "(I)I"⟩ prog_8_method_13_code 2 (some (.int)) ∈ xTs := xt_5 77 rfl rfl
theorem xp_X6_total : (⟨"MirrorHeirs$Shares", "total", "(I)I"⟩ : MethodName).cls ≠ "java/lang/invoke/MethodHandle" ∧ (⟨"MirrorHeirs$Shares", "total", "(I)I"⟩ : MethodName).cls ≠ "java/lang/invoke/VarHandle" ∧ (parseMethodDescriptor (⟨"MirrorHeirs$Shares", "total", "(I)I"⟩ : MethodName).desc).map (fun d => d.parameters.length) = some 1 := by decide +kernel
theorem xs_X7_along : Cond.instanceMethod ⟨"MirrorHeirs$Sight", "along", "(III)I"⟩ ∈ xTs := xt_5 119 rfl rfl
theorem xq_X7_along : Cond.selects "MirrorHeirs$Sight" ⟨"MirrorHeirs$Sight", "along", "(III)I"⟩ ⟨"MirrorHeirs$Sight", "along", "(III)I"⟩ ∈ xTs := xt_5 120 rfl rfl
theorem xz_X7_along : Cond.initialized "MirrorHeirs$Sight" ∈ xTs := xt_1 5 rfl rfl
theorem xe_X7_along : Cond.code ⟨"MirrorHeirs$Sight", "along", "(III)I"⟩ prog_9_method_9_code 11 (some (.int)) ∈ xTs := xt_5 121 rfl rfl
theorem xp_X7_along : (⟨"MirrorHeirs$Sight", "along", "(III)I"⟩ : MethodName).cls ≠ "java/lang/invoke/MethodHandle" ∧ (⟨"MirrorHeirs$Sight", "along", "(III)I"⟩ : MethodName).cls ≠ "java/lang/invoke/VarHandle" ∧ (parseMethodDescriptor (⟨"MirrorHeirs$Sight", "along", "(III)I"⟩ : MethodName).desc).map (fun d => d.parameters.length) = some 3 := by decide +kernel
theorem xs_X7_begin : Cond.instanceMethod ⟨"MirrorHeirs$Sight", "begin", "(I)V"⟩ ∈ xTs := xt_4 220 rfl rfl
theorem xq_X7_begin : Cond.selects "MirrorHeirs$Sight" ⟨"MirrorHeirs$Sight", "begin", "(I)V"⟩ ⟨"MirrorHeirs$Sight", "begin", "(I)V"⟩ ∈ xTs := xp2 11 rfl
theorem xz_X7_begin : Cond.initialized "MirrorHeirs$Sight" ∈ xTs := xt_1 5 rfl rfl
theorem xe_X7_begin : Cond.code ⟨"MirrorHeirs$Sight", "begin", "(I)V"⟩ prog_9_method_3_code 3 none ∈ xTs := xt_4 221 rfl rfl
theorem xp_X7_begin : (⟨"MirrorHeirs$Sight", "begin", "(I)V"⟩ : MethodName).cls ≠ "java/lang/invoke/MethodHandle" ∧ (⟨"MirrorHeirs$Sight", "begin", "(I)V"⟩ : MethodName).cls ≠ "java/lang/invoke/VarHandle" ∧ (parseMethodDescriptor (⟨"MirrorHeirs$Sight", "begin", "(I)V"⟩ : MethodName).desc).map (fun d => d.parameters.length) = some 1 := by decide +kernel
theorem xs_X7_comesTo : Cond.instanceMethod ⟨"MirrorHeirs$Sight", "comesTo", "(III)Z"⟩ ∈ xTs := xt_5 1 rfl rfl
theorem xq_X7_comesTo : Cond.selects "MirrorHeirs$Sight" ⟨"MirrorHeirs$Sight", "comesTo", "(III)Z"⟩ ⟨"MirrorHeirs$Sight", "comesTo", "(III)Z"⟩ ∈ xTs := xp2 14 rfl
theorem xz_X7_comesTo : Cond.initialized "MirrorHeirs$Sight" ∈ xTs := xt_1 5 rfl rfl
theorem xe_X7_comesTo : Cond.code ⟨"MirrorHeirs$Sight", "comesTo", "(III)Z"⟩ prog_9_method_5_code 5 (some (.boolean)) ∈ xTs := xt_5 2 rfl rfl
theorem xp_X7_comesTo : (⟨"MirrorHeirs$Sight", "comesTo", "(III)Z"⟩ : MethodName).cls ≠ "java/lang/invoke/MethodHandle" ∧ (⟨"MirrorHeirs$Sight", "comesTo", "(III)Z"⟩ : MethodName).cls ≠ "java/lang/invoke/VarHandle" ∧ (parseMethodDescriptor (⟨"MirrorHeirs$Sight", "comesTo", "(III)Z"⟩ : MethodName).desc).map (fun d => d.parameters.length) = some 3 := by decide +kernel
theorem xs_X7_fogged : Cond.instanceMethod ⟨"MirrorHeirs$Sight", "fogged", "(II)Z"⟩ ∈ xTs := xt_5 7 rfl rfl
theorem xq_X7_fogged : Cond.selects "MirrorHeirs$Sight" ⟨"MirrorHeirs$Sight", "fogged", "(II)Z"⟩ ⟨"MirrorHeirs$Sight", "fogged", "(II)Z"⟩ ∈ xTs := xp2 15 rfl
theorem xz_X7_fogged : Cond.initialized "MirrorHeirs$Sight" ∈ xTs := xt_1 5 rfl rfl
theorem xe_X7_fogged : Cond.code ⟨"MirrorHeirs$Sight", "fogged", "(II)Z"⟩ prog_9_method_11_code 6 (some (.boolean)) ∈ xTs := xt_5 8 rfl rfl
theorem xp_X7_fogged : (⟨"MirrorHeirs$Sight", "fogged", "(II)Z"⟩ : MethodName).cls ≠ "java/lang/invoke/MethodHandle" ∧ (⟨"MirrorHeirs$Sight", "fogged", "(II)Z"⟩ : MethodName).cls ≠ "java/lang/invoke/VarHandle" ∧ (parseMethodDescriptor (⟨"MirrorHeirs$Sight", "fogged", "(II)Z"⟩ : MethodName).desc).map (fun d => d.parameters.length) = some 2 := by decide +kernel
theorem xs_X7_fromAny : Cond.instanceMethod ⟨"MirrorHeirs$Sight", "fromAny", "(LMirrorHeirs$Rows;I)I"⟩ ∈ xTs := xt_5 187 rfl rfl
theorem xq_X7_fromAny : Cond.selects "MirrorHeirs$Sight" ⟨"MirrorHeirs$Sight", "fromAny", "(LMirrorHeirs$Rows;I)I"⟩ ⟨"MirrorHeirs$Sight", "fromAny", "(LMirrorHeirs$Rows;I)I"⟩ ∈ xTs := xt_5 188 rfl rfl
theorem xz_X7_fromAny : Cond.initialized "MirrorHeirs$Sight" ∈ xTs := xt_1 5 rfl rfl
theorem xe_X7_fromAny : Cond.code ⟨"MirrorHeirs$Sight", "fromAny", "(LMirrorHeirs$Rows;I)I"⟩ prog_9_method_8_code 6 (some (.int)) ∈ xTs := xt_5 189 rfl rfl
theorem xp_X7_fromAny : (⟨"MirrorHeirs$Sight", "fromAny", "(LMirrorHeirs$Rows;I)I"⟩ : MethodName).cls ≠ "java/lang/invoke/MethodHandle" ∧ (⟨"MirrorHeirs$Sight", "fromAny", "(LMirrorHeirs$Rows;I)I"⟩ : MethodName).cls ≠ "java/lang/invoke/VarHandle" ∧ (parseMethodDescriptor (⟨"MirrorHeirs$Sight", "fromAny", "(LMirrorHeirs$Rows;I)I"⟩ : MethodName).desc).map (fun d => d.parameters.length) = some 2 := by decide +kernel
theorem xs_X7_init : Cond.instanceMethod ⟨"MirrorHeirs$Sight", "<init>", "(LMirrorHeirs$Hall;)V"⟩ ∈ xTs := xt_1 129 rfl rfl
theorem xz_X7_init : Cond.initialized "MirrorHeirs$Sight" ∈ xTs := xt_1 5 rfl rfl
theorem xe_X7_init : Cond.code ⟨"MirrorHeirs$Sight", "<init>", "(LMirrorHeirs$Hall;)V"⟩ prog_9_method_1_code 2 none ∈ xTs := xt_1 130 rfl rfl
theorem xp_X7_init : (⟨"MirrorHeirs$Sight", "<init>", "(LMirrorHeirs$Hall;)V"⟩ : MethodName).cls ≠ "java/lang/invoke/MethodHandle" ∧ (⟨"MirrorHeirs$Sight", "<init>", "(LMirrorHeirs$Hall;)V"⟩ : MethodName).cls ≠ "java/lang/invoke/VarHandle" ∧ (parseMethodDescriptor (⟨"MirrorHeirs$Sight", "<init>", "(LMirrorHeirs$Hall;)V"⟩ : MethodName).desc).map (fun d => d.parameters.length) = some 1 := by decide +kernel
theorem xs_X7_look : Cond.instanceMethod ⟨"MirrorHeirs$Sight", "look", "(I)V"⟩ ∈ xTs := xt_4 215 rfl rfl
theorem xq_X7_look : Cond.selects "MirrorHeirs$Sight" ⟨"MirrorHeirs$Sight", "look", "(I)V"⟩ ⟨"MirrorHeirs$Sight", "look", "(I)V"⟩ ∈ xTs := xt_4 216 rfl rfl
theorem xz_X7_look : Cond.initialized "MirrorHeirs$Sight" ∈ xTs := xt_1 5 rfl rfl
theorem xe_X7_look : Cond.code ⟨"MirrorHeirs$Sight", "look", "(I)V"⟩ prog_9_method_2_code 9 none ∈ xTs := xt_4 217 rfl rfl
theorem xp_X7_look : (⟨"MirrorHeirs$Sight", "look", "(I)V"⟩ : MethodName).cls ≠ "java/lang/invoke/MethodHandle" ∧ (⟨"MirrorHeirs$Sight", "look", "(I)V"⟩ : MethodName).cls ≠ "java/lang/invoke/VarHandle" ∧ (parseMethodDescriptor (⟨"MirrorHeirs$Sight", "look", "(I)V"⟩ : MethodName).desc).map (fun d => d.parameters.length) = some 1 := by decide +kernel
theorem xs_X7_seenAt : Cond.instanceMethod ⟨"MirrorHeirs$Sight", "seenAt", "(I)I"⟩ ∈ xTs := xt_5 29 rfl rfl
theorem xq_X7_seenAt : Cond.selects "MirrorHeirs$Sight" ⟨"MirrorHeirs$Sight", "seenAt", "(I)I"⟩ ⟨"MirrorHeirs$Sight", "seenAt", "(I)I"⟩ ∈ xTs := xt_5 30 rfl rfl
theorem xz_X7_seenAt : Cond.initialized "MirrorHeirs$Sight" ∈ xTs := xt_1 5 rfl rfl
theorem xe_X7_seenAt : Cond.code ⟨"MirrorHeirs$Sight", "seenAt", "(I)I"⟩ prog_9_method_6_code 2 (some (.int)) ∈ xTs := xt_5 31 rfl rfl
theorem xp_X7_seenAt : (⟨"MirrorHeirs$Sight", "seenAt", "(I)I"⟩ : MethodName).cls ≠ "java/lang/invoke/MethodHandle" ∧ (⟨"MirrorHeirs$Sight", "seenAt", "(I)I"⟩ : MethodName).cls ≠ "java/lang/invoke/VarHandle" ∧ (parseMethodDescriptor (⟨"MirrorHeirs$Sight", "seenAt", "(I)I"⟩ : MethodName).desc).map (fun d => d.parameters.length) = some 1 := by decide +kernel
theorem xs_X7_send : Cond.instanceMethod ⟨"MirrorHeirs$Sight", "send", "(III)V"⟩ ∈ xTs := xt_4 234 rfl rfl
theorem xq_X7_send : Cond.selects "MirrorHeirs$Sight" ⟨"MirrorHeirs$Sight", "send", "(III)V"⟩ ⟨"MirrorHeirs$Sight", "send", "(III)V"⟩ ∈ xTs := xp2 13 rfl
theorem xz_X7_send : Cond.initialized "MirrorHeirs$Sight" ∈ xTs := xt_1 5 rfl rfl
theorem xe_X7_send : Cond.code ⟨"MirrorHeirs$Sight", "send", "(III)V"⟩ prog_9_method_4_code 4 none ∈ xTs := xt_4 235 rfl rfl
theorem xp_X7_send : (⟨"MirrorHeirs$Sight", "send", "(III)V"⟩ : MethodName).cls ≠ "java/lang/invoke/MethodHandle" ∧ (⟨"MirrorHeirs$Sight", "send", "(III)V"⟩ : MethodName).cls ≠ "java/lang/invoke/VarHandle" ∧ (parseMethodDescriptor (⟨"MirrorHeirs$Sight", "send", "(III)V"⟩ : MethodName).desc).map (fun d => d.parameters.length) = some 3 := by decide +kernel
theorem xs_X7_settleFog : Cond.instanceMethod ⟨"MirrorHeirs$Sight", "settleFog", "()V"⟩ ∈ xTs := xt_4 224 rfl rfl
theorem xq_X7_settleFog : Cond.selects "MirrorHeirs$Sight" ⟨"MirrorHeirs$Sight", "settleFog", "()V"⟩ ⟨"MirrorHeirs$Sight", "settleFog", "()V"⟩ ∈ xTs := xp2 12 rfl
theorem xz_X7_settleFog : Cond.initialized "MirrorHeirs$Sight" ∈ xTs := xt_1 5 rfl rfl
theorem xe_X7_settleFog : Cond.code ⟨"MirrorHeirs$Sight", "settleFog", "()V"⟩ prog_9_method_10_code 3 none ∈ xTs := xt_4 225 rfl rfl
theorem xp_X7_settleFog : (⟨"MirrorHeirs$Sight", "settleFog", "()V"⟩ : MethodName).cls ≠ "java/lang/invoke/MethodHandle" ∧ (⟨"MirrorHeirs$Sight", "settleFog", "()V"⟩ : MethodName).cls ≠ "java/lang/invoke/VarHandle" ∧ (parseMethodDescriptor (⟨"MirrorHeirs$Sight", "settleFog", "()V"⟩ : MethodName).desc).map (fun d => d.parameters.length) = some 0 := by decide +kernel
theorem xs_X7_thingsSeen : Cond.instanceMethod ⟨"MirrorHeirs$Sight", "thingsSeen", "()I"⟩ ∈ xTs := xt_5 25 rfl rfl
theorem xq_X7_thingsSeen : Cond.selects "MirrorHeirs$Sight" ⟨"MirrorHeirs$Sight", "thingsSeen", "()I"⟩ ⟨"MirrorHeirs$Sight", "thingsSeen", "()I"⟩ ∈ xTs := xt_5 26 rfl rfl
theorem xz_X7_thingsSeen : Cond.initialized "MirrorHeirs$Sight" ∈ xTs := xt_1 5 rfl rfl
theorem xe_X7_thingsSeen : Cond.code ⟨"MirrorHeirs$Sight", "thingsSeen", "()I"⟩ prog_9_method_7_code 3 (some (.int)) ∈ xTs := xt_5 27 rfl rfl
theorem xp_X7_thingsSeen : (⟨"MirrorHeirs$Sight", "thingsSeen", "()I"⟩ : MethodName).cls ≠ "java/lang/invoke/MethodHandle" ∧ (⟨"MirrorHeirs$Sight", "thingsSeen", "()I"⟩ : MethodName).cls ≠ "java/lang/invoke/VarHandle" ∧ (parseMethodDescriptor (⟨"MirrorHeirs$Sight", "thingsSeen", "()I"⟩ : MethodName).desc).map (fun d => d.parameters.length) = some 0 := by decide +kernel
theorem xs_X8_combined : Cond.static ⟨"MirrorHeirs$Slate", "combined", "(IJJ)I"⟩ ∈ xTs := xt_5 17 rfl rfl
theorem xz_X8_combined : Cond.initialized "MirrorHeirs$Slate" ∈ xTs := xt_1 6 rfl rfl
theorem xe_X8_combined : Cond.code ⟨"MirrorHeirs$Slate", "combined", "(IJJ)I"⟩ prog_10_method_4_code 7 (some (.int)) ∈ xTs := xt_5 18 rfl rfl
theorem xp_X8_combined : (⟨"MirrorHeirs$Slate", "combined", "(IJJ)I"⟩ : MethodName).cls ≠ "java/lang/invoke/MethodHandle" ∧ (⟨"MirrorHeirs$Slate", "combined", "(IJJ)I"⟩ : MethodName).cls ≠ "java/lang/invoke/VarHandle" ∧ (parseMethodDescriptor (⟨"MirrorHeirs$Slate", "combined", "(IJJ)I"⟩ : MethodName).desc).map (fun d => d.parameters.length) = some 3 := by decide +kernel
theorem xs_X8_init : Cond.instanceMethod ⟨"MirrorHeirs$Slate", "<init>", "(II)V"⟩ ∈ xTs := xt_1 135 rfl rfl
theorem xz_X8_init : Cond.initialized "MirrorHeirs$Slate" ∈ xTs := xt_1 6 rfl rfl
theorem xe_X8_init : Cond.code ⟨"MirrorHeirs$Slate", "<init>", "(II)V"⟩ prog_10_method_1_code 4 none ∈ xTs := xt_1 136 rfl rfl
theorem xp_X8_init : (⟨"MirrorHeirs$Slate", "<init>", "(II)V"⟩ : MethodName).cls ≠ "java/lang/invoke/MethodHandle" ∧ (⟨"MirrorHeirs$Slate", "<init>", "(II)V"⟩ : MethodName).cls ≠ "java/lang/invoke/VarHandle" ∧ (parseMethodDescriptor (⟨"MirrorHeirs$Slate", "<init>", "(II)V"⟩ : MethodName).desc).map (fun d => d.parameters.length) = some 2 := by decide +kernel
theorem xs_X8_set : Cond.instanceMethod ⟨"MirrorHeirs$Slate", "set", "(II)V"⟩ ∈ xTs := xt_4 206 rfl rfl
theorem xq_X8_set : Cond.selects "MirrorHeirs$Slate" ⟨"MirrorHeirs$Slate", "set", "(II)V"⟩ ⟨"MirrorHeirs$Slate", "set", "(II)V"⟩ ∈ xTs := xt_4 207 rfl rfl
theorem xz_X8_set : Cond.initialized "MirrorHeirs$Slate" ∈ xTs := xt_1 6 rfl rfl
theorem xe_X8_set : Cond.code ⟨"MirrorHeirs$Slate", "set", "(II)V"⟩ prog_10_method_2_code 3 none ∈ xTs := xt_4 208 rfl rfl
theorem xp_X8_set : (⟨"MirrorHeirs$Slate", "set", "(II)V"⟩ : MethodName).cls ≠ "java/lang/invoke/MethodHandle" ∧ (⟨"MirrorHeirs$Slate", "set", "(II)V"⟩ : MethodName).cls ≠ "java/lang/invoke/VarHandle" ∧ (parseMethodDescriptor (⟨"MirrorHeirs$Slate", "set", "(II)V"⟩ : MethodName).desc).map (fun d => d.parameters.length) = some 2 := by decide +kernel
theorem xs_X8_value : Cond.instanceMethod ⟨"MirrorHeirs$Slate", "value", "(LMirrorHeirs$Text;II)I"⟩ ∈ xTs := xt_5 12 rfl rfl
theorem xq_X8_value : Cond.selects "MirrorHeirs$Slate" ⟨"MirrorHeirs$Slate", "value", "(LMirrorHeirs$Text;II)I"⟩ ⟨"MirrorHeirs$Slate", "value", "(LMirrorHeirs$Text;II)I"⟩ ∈ xTs := xt_5 13 rfl rfl
theorem xz_X8_value : Cond.initialized "MirrorHeirs$Slate" ∈ xTs := xt_1 6 rfl rfl
theorem xe_X8_value : Cond.code ⟨"MirrorHeirs$Slate", "value", "(LMirrorHeirs$Text;II)I"⟩ prog_10_method_3_code 9 (some (.int)) ∈ xTs := xt_5 14 rfl rfl
theorem xp_X8_value : (⟨"MirrorHeirs$Slate", "value", "(LMirrorHeirs$Text;II)I"⟩ : MethodName).cls ≠ "java/lang/invoke/MethodHandle" ∧ (⟨"MirrorHeirs$Slate", "value", "(LMirrorHeirs$Text;II)I"⟩ : MethodName).cls ≠ "java/lang/invoke/VarHandle" ∧ (parseMethodDescriptor (⟨"MirrorHeirs$Slate", "value", "(LMirrorHeirs$Text;II)I"⟩ : MethodName).desc).map (fun d => d.parameters.length) = some 3 := by decide +kernel
theorem xs_X9_aimHere : Cond.instanceMethod ⟨"MirrorHeirs$Text", "aimHere", "(I)V"⟩ ∈ xTs := xt_4 148 rfl rfl
theorem xq_X9_aimHere : Cond.selects "MirrorHeirs$Text" ⟨"MirrorHeirs$Text", "aimHere", "(I)V"⟩ ⟨"MirrorHeirs$Text", "aimHere", "(I)V"⟩ ∈ xTs := xt_4 149 rfl rfl
theorem xz_X9_aimHere : Cond.initialized "MirrorHeirs$Text" ∈ xTs := xt_1 10 rfl rfl
theorem xe_X9_aimHere : Cond.code ⟨"MirrorHeirs$Text", "aimHere", "(I)V"⟩ prog_11_method_4_code 2 none ∈ xTs := xt_4 150 rfl rfl
theorem xp_X9_aimHere : (⟨"MirrorHeirs$Text", "aimHere", "(I)V"⟩ : MethodName).cls ≠ "java/lang/invoke/MethodHandle" ∧ (⟨"MirrorHeirs$Text", "aimHere", "(I)V"⟩ : MethodName).cls ≠ "java/lang/invoke/VarHandle" ∧ (parseMethodDescriptor (⟨"MirrorHeirs$Text", "aimHere", "(I)V"⟩ : MethodName).desc).map (fun d => d.parameters.length) = some 1 := by decide +kernel
theorem xs_X9_clear : Cond.instanceMethod ⟨"MirrorHeirs$Text", "clear", "()V"⟩ ∈ xTs := xt_3 218 rfl rfl
theorem xq_X9_clear : Cond.selects "MirrorHeirs$Text" ⟨"MirrorHeirs$Text", "clear", "()V"⟩ ⟨"MirrorHeirs$Text", "clear", "()V"⟩ ∈ xTs := xt_3 219 rfl rfl
theorem xz_X9_clear : Cond.initialized "MirrorHeirs$Text" ∈ xTs := xt_1 10 rfl rfl
theorem xe_X9_clear : Cond.code ⟨"MirrorHeirs$Text", "clear", "()V"⟩ prog_11_method_2_code 1 none ∈ xTs := xt_3 220 rfl rfl
theorem xp_X9_clear : (⟨"MirrorHeirs$Text", "clear", "()V"⟩ : MethodName).cls ≠ "java/lang/invoke/MethodHandle" ∧ (⟨"MirrorHeirs$Text", "clear", "()V"⟩ : MethodName).cls ≠ "java/lang/invoke/VarHandle" ∧ (parseMethodDescriptor (⟨"MirrorHeirs$Text", "clear", "()V"⟩ : MethodName).desc).map (fun d => d.parameters.length) = some 0 := by decide +kernel
theorem xs_X9_emit : Cond.instanceMethod ⟨"MirrorHeirs$Text", "emit", "(II)I"⟩ ∈ xTs := xt_4 114 rfl rfl
theorem xq_X9_emit : Cond.selects "MirrorHeirs$Text" ⟨"MirrorHeirs$Text", "emit", "(II)I"⟩ ⟨"MirrorHeirs$Text", "emit", "(II)I"⟩ ∈ xTs := xt_4 115 rfl rfl
theorem xz_X9_emit : Cond.initialized "MirrorHeirs$Text" ∈ xTs := xt_1 10 rfl rfl
theorem xe_X9_emit : Cond.code ⟨"MirrorHeirs$Text", "emit", "(II)I"⟩ prog_11_method_3_code 3 (some (.int)) ∈ xTs := xt_4 116 rfl rfl
theorem xp_X9_emit : (⟨"MirrorHeirs$Text", "emit", "(II)I"⟩ : MethodName).cls ≠ "java/lang/invoke/MethodHandle" ∧ (⟨"MirrorHeirs$Text", "emit", "(II)I"⟩ : MethodName).cls ≠ "java/lang/invoke/VarHandle" ∧ (parseMethodDescriptor (⟨"MirrorHeirs$Text", "emit", "(II)I"⟩ : MethodName).desc).map (fun d => d.parameters.length) = some 2 := by decide +kernel
theorem xs_X9_init : Cond.instanceMethod ⟨"MirrorHeirs$Text", "<init>", "(I)V"⟩ ∈ xTs := xt_1 233 rfl rfl
theorem xz_X9_init : Cond.initialized "MirrorHeirs$Text" ∈ xTs := xt_1 10 rfl rfl
theorem xe_X9_init : Cond.code ⟨"MirrorHeirs$Text", "<init>", "(I)V"⟩ prog_11_method_1_code 2 none ∈ xTs := xt_1 234 rfl rfl
theorem xp_X9_init : (⟨"MirrorHeirs$Text", "<init>", "(I)V"⟩ : MethodName).cls ≠ "java/lang/invoke/MethodHandle" ∧ (⟨"MirrorHeirs$Text", "<init>", "(I)V"⟩ : MethodName).cls ≠ "java/lang/invoke/VarHandle" ∧ (parseMethodDescriptor (⟨"MirrorHeirs$Text", "<init>", "(I)V"⟩ : MethodName).desc).map (fun d => d.parameters.length) = some 1 := by decide +kernel
theorem xs_X9_trimmed : Cond.instanceMethod ⟨"MirrorHeirs$Text", "trimmed", "()LMirrorHeirs$Text;"⟩ ∈ xTs := xt_4 158 rfl rfl
theorem xq_X9_trimmed : Cond.selects "MirrorHeirs$Text" ⟨"MirrorHeirs$Text", "trimmed", "()LMirrorHeirs$Text;"⟩ ⟨"MirrorHeirs$Text", "trimmed", "()LMirrorHeirs$Text;"⟩ ∈ xTs := xt_4 159 rfl rfl
theorem xz_X9_trimmed : Cond.initialized "MirrorHeirs$Text" ∈ xTs := xt_1 10 rfl rfl
theorem xe_X9_trimmed : Cond.code ⟨"MirrorHeirs$Text", "trimmed", "()LMirrorHeirs$Text;"⟩ prog_11_method_5_code 3 (some (.object "MirrorHeirs$Text")) ∈ xTs := xt_4 160 rfl rfl
theorem xp_X9_trimmed : (⟨"MirrorHeirs$Text", "trimmed", "()LMirrorHeirs$Text;"⟩ : MethodName).cls ≠ "java/lang/invoke/MethodHandle" ∧ (⟨"MirrorHeirs$Text", "trimmed", "()LMirrorHeirs$Text;"⟩ : MethodName).cls ≠ "java/lang/invoke/VarHandle" ∧ (parseMethodDescriptor (⟨"MirrorHeirs$Text", "trimmed", "()LMirrorHeirs$Text;"⟩ : MethodName).desc).map (fun d => d.parameters.length) = some 0 := by decide +kernel
