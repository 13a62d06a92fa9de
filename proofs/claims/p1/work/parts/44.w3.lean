theorem xe_X12_sumOf : Cond.code ⟨"MirrorHeirsModel", "sumOf", "(Z)J"⟩ prog_14_method_69_code 7 (some (.long)) ∈ xTs := xt_8 167 rfl rfl
theorem xp_X12_sumOf : (⟨"MirrorHeirsModel", "sumOf", "(Z)J"⟩ : MethodName).cls ≠ "java/lang/invoke/MethodHandle" ∧ (⟨"MirrorHeirsModel", "sumOf", "(Z)J"⟩ : MethodName).cls ≠ "java/lang/invoke/VarHandle" ∧ (parseMethodDescriptor (⟨"MirrorHeirsModel", "sumOf", "(Z)J"⟩ : MethodName).desc).map (fun d => d.parameters.length) = some 1 := by decide +kernel
theorem xs_X12_takes0 : Cond.instanceMethod ⟨"MirrorHeirsModel", "takes0", "(I)Z"⟩ ∈ xTs := xt_8 83 rfl rfl
theorem xq_X12_takes0 : Cond.selects "MirrorHeirsModel" ⟨"MirrorHeirsModel", "takes0", "(I)Z"⟩ ⟨"MirrorHeirsModel", "takes0", "(I)Z"⟩ ∈ xTs := xp5 10 rfl
theorem xz_X12_takes0 : Cond.initialized "MirrorHeirsModel" ∈ xTs := xt_1 15 rfl rfl
theorem xe_X12_takes0 : Cond.code ⟨"MirrorHeirsModel", "takes0", "(I)Z"⟩ prog_14_method_46_code 3 (some (.boolean)) ∈ xTs := xt_8 84 rfl rfl
theorem xp_X12_takes0 : (⟨"MirrorHeirsModel", "takes0", "(I)Z"⟩ : MethodName).cls ≠ "java/lang/invoke/MethodHandle" ∧ (⟨"MirrorHeirsModel", "takes0", "(I)Z"⟩ : MethodName).cls ≠ "java/lang/invoke/VarHandle" ∧ (parseMethodDescriptor (⟨"MirrorHeirsModel", "takes0", "(I)Z"⟩ : MethodName).desc).map (fun d => d.parameters.length) = some 1 := by decide +kernel
theorem xs_X12_takesKind : Cond.instanceMethod ⟨"MirrorHeirsModel", "takesKind", "(II)V"⟩ ∈ xTs := xt_7 190 rfl rfl
theorem xq_X12_takesKind : Cond.selects "MirrorHeirsModel" ⟨"MirrorHeirsModel", "takesKind", "(II)V"⟩ ⟨"MirrorHeirsModel", "takesKind", "(II)V"⟩ ∈ xTs := xp4 11 rfl
theorem xz_X12_takesKind : Cond.initialized "MirrorHeirsModel" ∈ xTs := xt_1 15 rfl rfl
theorem xe_X12_takesKind : Cond.code ⟨"MirrorHeirsModel", "takesKind", "(II)V"⟩ prog_14_method_17_code 5 none ∈ xTs := xt_7 191 rfl rfl
theorem xp_X12_takesKind : (⟨"MirrorHeirsModel", "takesKind", "(II)V"⟩ : MethodName).cls ≠ "java/lang/invoke/MethodHandle" ∧ (⟨"MirrorHeirsModel", "takesKind", "(II)V"⟩ : MethodName).cls ≠ "java/lang/invoke/VarHandle" ∧ (parseMethodDescriptor (⟨"MirrorHeirsModel", "takesKind", "(II)V"⟩ : MethodName).desc).map (fun d => d.parameters.length) = some 2 := by decide +kernel
theorem xs_X12_telling : Cond.instanceMethod ⟨"MirrorHeirsModel", "telling", "(III)I"⟩ ∈ xTs := xt_9 51 rfl rfl
theorem xq_X12_telling : Cond.selects "MirrorHeirsModel" ⟨"MirrorHeirsModel", "telling", "(III)I"⟩ ⟨"MirrorHeirsModel", "telling", "(III)I"⟩ ∈ xTs := xt_9 52 rfl rfl
theorem xz_X12_telling : Cond.initialized "MirrorHeirsModel" ∈ xTs := xt_1 15 rfl rfl
theorem xe_X12_telling : Cond.code ⟨"MirrorHeirsModel", "telling", "(III)I"⟩ prog_14_method_101_code 5 (some (.int)) ∈ xTs := xt_9 53 rfl rfl
theorem xp_X12_telling : (⟨"MirrorHeirsModel", "telling", "(III)I"⟩ : MethodName).cls ≠ "java/lang/invoke/MethodHandle" ∧ (⟨"MirrorHeirsModel", "telling", "(III)I"⟩ : MethodName).cls ≠ "java/lang/invoke/VarHandle" ∧ (parseMethodDescriptor (⟨"MirrorHeirsModel", "telling", "(III)I"⟩ : MethodName).desc).map (fun d => d.parameters.length) = some 3 := by decide +kernel
theorem xs_X12_terms : Cond.instanceMethod ⟨"MirrorHeirsModel", "terms", "(II)I"⟩ ∈ xTs := xt_8 27 rfl rfl
theorem xq_X12_terms : Cond.selects "MirrorHeirsModel" ⟨"MirrorHeirsModel", "terms", "(II)I"⟩ ⟨"MirrorHeirsModel", "terms", "(II)I"⟩ ∈ xTs := xt_8 28 rfl rfl
theorem xz_X12_terms : Cond.initialized "MirrorHeirsModel" ∈ xTs := xt_1 15 rfl rfl
theorem xe_X12_terms : Cond.code ⟨"MirrorHeirsModel", "terms", "(II)I"⟩ prog_14_method_35_code 4 (some (.int)) ∈ xTs := xt_8 29 rfl rfl
theorem xp_X12_terms : (⟨"MirrorHeirsModel", "terms", "(II)I"⟩ : MethodName).cls ≠ "java/lang/invoke/MethodHandle" ∧ (⟨"MirrorHeirsModel", "terms", "(II)I"⟩ : MethodName).cls ≠ "java/lang/invoke/VarHandle" ∧ (parseMethodDescriptor (⟨"MirrorHeirsModel", "terms", "(II)I"⟩ : MethodName).desc).map (fun d => d.parameters.length) = some 2 := by decide +kernel
theorem xs_X12_testOf : Cond.instanceMethod ⟨"MirrorHeirsModel", "testOf", "(Z)Z"⟩ ∈ xTs := xt_8 188 rfl rfl
theorem xq_X12_testOf : Cond.selects "MirrorHeirsModel" ⟨"MirrorHeirsModel", "testOf", "(Z)Z"⟩ ⟨"MirrorHeirsModel", "testOf", "(Z)Z"⟩ ∈ xTs := xp7 0 rfl
theorem xz_X12_testOf : Cond.initialized "MirrorHeirsModel" ∈ xTs := xt_1 15 rfl rfl
theorem xe_X12_testOf : Cond.code ⟨"MirrorHeirsModel", "testOf", "(Z)Z"⟩ prog_14_method_72_code 4 (some (.boolean)) ∈ xTs := xt_8 189 rfl rfl
theorem xp_X12_testOf : (⟨"MirrorHeirsModel", "testOf", "(Z)Z"⟩ : MethodName).cls ≠ "java/lang/invoke/MethodHandle" ∧ (⟨"MirrorHeirsModel", "testOf", "(Z)Z"⟩ : MethodName).cls ≠ "java/lang/invoke/VarHandle" ∧ (parseMethodDescriptor (⟨"MirrorHeirsModel", "testOf", "(Z)Z"⟩ : MethodName).desc).map (fun d => d.parameters.length) = some 1 := by decide +kernel
theorem xs_X12_thing : Cond.instanceMethod ⟨"MirrorHeirsModel", "thing", "(III)I"⟩ ∈ xTs := xt_8 19 rfl rfl
theorem xq_X12_thing : Cond.selects "MirrorHeirsModel" ⟨"MirrorHeirsModel", "thing", "(III)I"⟩ ⟨"MirrorHeirsModel", "thing", "(III)I"⟩ ∈ xTs := xt_8 20 rfl rfl
theorem xz_X12_thing : Cond.initialized "MirrorHeirsModel" ∈ xTs := xt_1 15 rfl rfl
theorem xe_X12_thing : Cond.code ⟨"MirrorHeirsModel", "thing", "(III)I"⟩ prog_14_method_33_code 5 (some (.int)) ∈ xTs := xt_8 21 rfl rfl
theorem xp_X12_thing : (⟨"MirrorHeirsModel", "thing", "(III)I"⟩ : MethodName).cls ≠ "java/lang/invoke/MethodHandle" ∧ (⟨"MirrorHeirsModel", "thing", "(III)I"⟩ : MethodName).cls ≠ "java/lang/invoke/VarHandle" ∧ (parseMethodDescriptor (⟨"MirrorHeirsModel", "thing", "(III)I"⟩ : MethodName).desc).map (fun d => d.parameters.length) = some 3 := by decide +kernel
theorem xs_X12_thingAt : Cond.instanceMethod ⟨"MirrorHeirsModel", "thingAt", "(I)I"⟩ ∈ xTs := xt_7 202 rfl rfl
theorem xq_X12_thingAt : Cond.selects "MirrorHeirsModel" ⟨"MirrorHeirsModel", "thingAt", "(I)I"⟩ ⟨"MirrorHeirsModel", "thingAt", "(I)I"⟩ ∈ xTs := xp4 13 rfl
theorem xz_X12_thingAt : Cond.initialized "MirrorHeirsModel" ∈ xTs := xt_1 15 rfl rfl
theorem xe_X12_thingAt : Cond.code ⟨"MirrorHeirsModel", "thingAt", "(I)I"⟩ prog_14_method_16_code 2 (some (.int)) ∈ xTs := xt_7 203 rfl rfl
theorem xp_X12_thingAt : (⟨"MirrorHeirsModel", "thingAt", "(I)I"⟩ : MethodName).cls ≠ "java/lang/invoke/MethodHandle" ∧ (⟨"MirrorHeirsModel", "thingAt", "(I)I"⟩ : MethodName).cls ≠ "java/lang/invoke/VarHandle" ∧ (parseMethodDescriptor (⟨"MirrorHeirsModel", "thingAt", "(I)I"⟩ : MethodName).desc).map (fun d => d.parameters.length) = some 1 := by decide +kernel
theorem xs_X12_told : Cond.instanceMethod ⟨"MirrorHeirsModel", "told", "(III)I"⟩ ∈ xTs := xt_8 158 rfl rfl
theorem xq_X12_told : Cond.selects "MirrorHeirsModel" ⟨"MirrorHeirsModel", "told", "(III)I"⟩ ⟨"MirrorHeirsModel", "told", "(III)I"⟩ ∈ xTs := xp6 9 rfl
theorem xz_X12_told : Cond.initialized "MirrorHeirsModel" ∈ xTs := xt_1 15 rfl rfl
theorem xe_X12_told : Cond.code ⟨"MirrorHeirsModel", "told", "(III)I"⟩ prog_14_method_76_code 11 (some (.int)) ∈ xTs := xt_8 159 rfl rfl
theorem xp_X12_told : (⟨"MirrorHeirsModel", "told", "(III)I"⟩ : MethodName).cls ≠ "java/lang/invoke/MethodHandle" ∧ (⟨"MirrorHeirsModel", "told", "(III)I"⟩ : MethodName).cls ≠ "java/lang/invoke/VarHandle" ∧ (parseMethodDescriptor (⟨"MirrorHeirsModel", "told", "(III)I"⟩ : MethodName).desc).map (fun d => d.parameters.length) = some 3 := by decide +kernel
theorem xs_X12_turn : Cond.instanceMethod ⟨"MirrorHeirsModel", "turn", "(I)I"⟩ ∈ xTs := xt_7 220 rfl rfl
theorem xq_X12_turn : Cond.selects "MirrorHeirsModel" ⟨"MirrorHeirsModel", "turn", "(I)I"⟩ ⟨"MirrorHeirsModel", "turn", "(I)I"⟩ ∈ xTs := xt_7 221 rfl rfl
theorem xz_X12_turn : Cond.initialized "MirrorHeirsModel" ∈ xTs := xt_1 15 rfl rfl
theorem xe_X12_turn : Cond.code ⟨"MirrorHeirsModel", "turn", "(I)I"⟩ prog_14_method_26_code 2 (some (.int)) ∈ xTs := xt_7 222 rfl rfl
theorem xp_X12_turn : (⟨"MirrorHeirsModel", "turn", "(I)I"⟩ : MethodName).cls ≠ "java/lang/invoke/MethodHandle" ∧ (⟨"MirrorHeirsModel", "turn", "(I)I"⟩ : MethodName).cls ≠ "java/lang/invoke/VarHandle" ∧ (parseMethodDescriptor (⟨"MirrorHeirsModel", "turn", "(I)I"⟩ : MethodName).desc).map (fun d => d.parameters.length) = some 1 := by decide +kernel
theorem xs_X12_turned : Cond.instanceMethod ⟨"MirrorHeirsModel", "turned", "(I)I"⟩ ∈ xTs := xt_9 55 rfl rfl
theorem xq_X12_turned : Cond.selects "MirrorHeirsModel" ⟨"MirrorHeirsModel", "turned", "(I)I"⟩ ⟨"MirrorHeirsModel", "turned", "(I)I"⟩ ∈ xTs := xt_9 56 rfl rfl
theorem xz_X12_turned : Cond.initialized "MirrorHeirsModel" ∈ xTs := xt_1 15 rfl rfl
theorem xe_X12_turned : Cond.code ⟨"MirrorHeirsModel", "turned", "(I)I"⟩ prog_14_method_104_code 6 (some (.int)) ∈ xTs := xt_9 57 rfl rfl
theorem xp_X12_turned : (⟨"MirrorHeirsModel", "turned", "(I)I"⟩ : MethodName).cls ≠ "java/lang/invoke/MethodHandle" ∧ (⟨"MirrorHeirsModel", "turned", "(I)I"⟩ : MethodName).cls ≠ "java/lang/invoke/VarHandle" ∧ (parseMethodDescriptor (⟨"MirrorHeirsModel", "turned", "(I)I"⟩ : MethodName).desc).map (fun d => d.parameters.length) = some 1 := by decide +kernel
theorem xs_X12_turns : Cond.instanceMethod ⟨"MirrorHeirsModel", "turns", "(I)V"⟩ ∈ xTs := xt_7 233 rfl rfl
theorem xq_X12_turns : Cond.selects "MirrorHeirsModel" ⟨"MirrorHeirsModel", "turns", "(I)V"⟩ ⟨"MirrorHeirsModel", "turns", "(I)V"⟩ ∈ xTs := xp5 1 rfl
theorem xz_X12_turns : Cond.initialized "MirrorHeirsModel" ∈ xTs := xt_1 15 rfl rfl
theorem xe_X12_turns : Cond.code ⟨"MirrorHeirsModel", "turns", "(I)V"⟩ prog_14_method_25_code 2 none ∈ xTs := xt_7 234 rfl rfl
theorem xp_X12_turns : (⟨"MirrorHeirsModel", "turns", "(I)V"⟩ : MethodName).cls ≠ "java/lang/invoke/MethodHandle" ∧ (⟨"MirrorHeirsModel", "turns", "(I)V"⟩ : MethodName).cls ≠ "java/lang/invoke/VarHandle" ∧ (parseMethodDescriptor (⟨"MirrorHeirsModel", "turns", "(I)V"⟩ : MethodName).desc).map (fun d => d.parameters.length) = some 1 := by decide +kernel
theorem xs_X12_turnsKept : Cond.instanceMethod ⟨"MirrorHeirsModel", "turnsKept", "(I)V"⟩ ∈ xTs := xt_7 225 rfl rfl
theorem xq_X12_turnsKept : Cond.selects "MirrorHeirsModel" ⟨"MirrorHeirsModel", "turnsKept", "(I)V"⟩ ⟨"MirrorHeirsModel", "turnsKept", "(I)V"⟩ ∈ xTs := xp4 15 rfl
theorem xz_X12_turnsKept : Cond.initialized "MirrorHeirsModel" ∈ xTs := xt_1 15 rfl rfl
theorem xe_X12_turnsKept : Cond.code ⟨"MirrorHeirsModel", "turnsKept", "(I)V"⟩ prog_14_method_30_code 2 none ∈ xTs := xt_7 226 rfl rfl
theorem xp_X12_turnsKept : (⟨"MirrorHeirsModel", "turnsKept", "(I)V"⟩ : MethodName).cls ≠ "java/lang/invoke/MethodHandle" ∧ (⟨"MirrorHeirsModel", "turnsKept", "(I)V"⟩ : MethodName).cls ≠ "java/lang/invoke/VarHandle" ∧ (parseMethodDescriptor (⟨"MirrorHeirsModel", "turnsKept", "(I)V"⟩ : MethodName).desc).map (fun d => d.parameters.length) = some 1 := by decide +kernel
theorem xs_X12_turnsSet : Cond.instanceMethod ⟨"MirrorHeirsModel", "turnsSet", "(I)V"⟩ ∈ xTs := xt_9 60 rfl rfl
theorem xq_X12_turnsSet : Cond.selects "MirrorHeirsModel" ⟨"MirrorHeirsModel", "turnsSet", "(I)V"⟩ ⟨"MirrorHeirsModel", "turnsSet", "(I)V"⟩ ∈ xTs := xp7 15 rfl
theorem xz_X12_turnsSet : Cond.initialized "MirrorHeirsModel" ∈ xTs := xt_1 15 rfl rfl
theorem xe_X12_turnsSet : Cond.code ⟨"MirrorHeirsModel", "turnsSet", "(I)V"⟩ prog_14_method_102_code 3 none ∈ xTs := xt_9 61 rfl rfl
theorem xp_X12_turnsSet : (⟨"MirrorHeirsModel", "turnsSet", "(I)V"⟩ : MethodName).cls ≠ "java/lang/invoke/MethodHandle" ∧ (⟨"MirrorHeirsModel", "turnsSet", "(I)V"⟩ : MethodName).cls ≠ "java/lang/invoke/VarHandle" ∧ (parseMethodDescriptor (⟨"MirrorHeirsModel", "turnsSet", "(I)V"⟩ : MethodName).desc).map (fun d => d.parameters.length) = some 1 := by decide +kernel
theorem xs_X12_turnsThen : Cond.instanceMethod ⟨"MirrorHeirsModel", "turnsThen", "(II)I"⟩ ∈ xTs := xt_9 110 rfl rfl
theorem xq_X12_turnsThen : Cond.selects "MirrorHeirsModel" ⟨"MirrorHeirsModel", "turnsThen", "(II)I"⟩ ⟨"MirrorHeirsModel", "turnsThen", "(II)I"⟩ ∈ xTs := xp8 3 rfl
theorem xz_X12_turnsThen : Cond.initialized "MirrorHeirsModel" ∈ xTs := xt_1 15 rfl rfl
theorem xe_X12_turnsThen : Cond.code ⟨"MirrorHeirsModel", "turnsThen", "(II)I"⟩ prog_14_method_113_code 7 (some (.int)) ∈ xTs := xt_9 111 rfl rfl
theorem xp_X12_turnsThen : (⟨"MirrorHeirsModel", "turnsThen", "(II)I"⟩ : MethodName).cls ≠ "java/lang/invoke/MethodHandle" ∧ (⟨"MirrorHeirsModel", "turnsThen", "(II)I"⟩ : MethodName).cls ≠ "java/lang/invoke/VarHandle" ∧ (parseMethodDescriptor (⟨"MirrorHeirsModel", "turnsThen", "(II)I"⟩ : MethodName).desc).map (fun d => d.parameters.length) = some 2 := by decide +kernel
theorem xs_X12_undo : Cond.instanceMethod ⟨"MirrorHeirsModel", "undo", "()I"⟩ ∈ xTs := xt_8 15 rfl rfl
theorem xq_X12_undo : Cond.selects "MirrorHeirsModel" ⟨"MirrorHeirsModel", "undo", "()I"⟩ ⟨"MirrorHeirsModel", "undo", "()I"⟩ ∈ xTs := xt_8 16 rfl rfl
theorem xz_X12_undo : Cond.initialized "MirrorHeirsModel" ∈ xTs := xt_1 15 rfl rfl
theorem xe_X12_undo : Cond.code ⟨"MirrorHeirsModel", "undo", "()I"⟩ prog_14_method_32_code 3 (some (.int)) ∈ xTs := xt_8 17 rfl rfl
theorem xp_X12_undo : (⟨"MirrorHeirsModel", "undo", "()I"⟩ : MethodName).cls ≠ "java/lang/invoke/MethodHandle" ∧ (⟨"MirrorHeirsModel", "undo", "()I"⟩ : MethodName).cls ≠ "java/lang/invoke/VarHandle" ∧ (parseMethodDescriptor (⟨"MirrorHeirsModel", "undo", "()I"⟩ : MethodName).desc).map (fun d => d.parameters.length) = some 0 := by decide +kernel
theorem xs_X12_views : Cond.instanceMethod ⟨"MirrorHeirsModel", "views", "(I)I"⟩ ∈ xTs := xt_8 228 rfl rfl
theorem xq_X12_views : Cond.selects "MirrorHeirsModel" ⟨"MirrorHeirsModel", "views", "(I)I"⟩ ⟨"MirrorHeirsModel", "views", "(I)I"⟩ ∈ xTs := xt_8 229 rfl rfl
theorem xz_X12_views : Cond.initialized "MirrorHeirsModel" ∈ xTs := xt_1 15 rfl rfl
theorem xe_X12_views : Cond.code ⟨"MirrorHeirsModel", "views", "(I)I"⟩ prog_14_method_87_code 2 (some (.int)) ∈ xTs := xt_8 230 rfl rfl
theorem xp_X12_views : (⟨"MirrorHeirsModel", "views", "(I)I"⟩ : MethodName).cls ≠ "java/lang/invoke/MethodHandle" ∧ (⟨"MirrorHeirsModel", "views", "(I)I"⟩ : MethodName).cls ≠ "java/lang/invoke/VarHandle" ∧ (parseMethodDescriptor (⟨"MirrorHeirsModel", "views", "(I)I"⟩ : MethodName).desc).map (fun d => d.parameters.length) = some 1 := by decide +kernel
theorem xs_X12_viewsFrom : Cond.instanceMethod ⟨"MirrorHeirsModel", "viewsFrom", "(I)I"⟩ ∈ xTs := xt_8 233 rfl rfl
theorem xq_X12_viewsFrom : Cond.selects "MirrorHeirsModel" ⟨"MirrorHeirsModel", "viewsFrom", "(I)I"⟩ ⟨"MirrorHeirsModel", "viewsFrom", "(I)I"⟩ ∈ xTs := xp7 7 rfl
theorem xz_X12_viewsFrom : Cond.initialized "MirrorHeirsModel" ∈ xTs := xt_1 15 rfl rfl
theorem xe_X12_viewsFrom : Cond.code ⟨"MirrorHeirsModel", "viewsFrom", "(I)I"⟩ prog_14_method_86_code 4 (some (.int)) ∈ xTs := xt_8 234 rfl rfl
theorem xp_X12_viewsFrom : (⟨"MirrorHeirsModel", "viewsFrom", "(I)I"⟩ : MethodName).cls ≠ "java/lang/invoke/MethodHandle" ∧ (⟨"MirrorHeirsModel", "viewsFrom", "(I)I"⟩ : MethodName).cls ≠ "java/lang/invoke/VarHandle" ∧ (parseMethodDescriptor (⟨"MirrorHeirsModel", "viewsFrom", "(I)I"⟩ : MethodName).desc).map (fun d => d.parameters.length) = some 1 := by decide +kernel
theorem xs_X12_wordOf : Cond.instanceMethod ⟨"MirrorHeirsModel", "wordOf", "(II)I"⟩ ∈ xTs := xt_8 70 rfl rfl
theorem xq_X12_wordOf : Cond.selects "MirrorHeirsModel" ⟨"MirrorHeirsModel", "wordOf", "(II)I"⟩ ⟨"MirrorHeirsModel", "wordOf", "(II)I"⟩ ∈ xTs := xp5 7 rfl
theorem xz_X12_wordOf : Cond.initialized "MirrorHeirsModel" ∈ xTs := xt_1 15 rfl rfl
theorem xe_X12_wordOf : Cond.code ⟨"MirrorHeirsModel", "wordOf", "(II)I"⟩ prog_14_method_42_code 8 (some (.int)) ∈ xTs := xt_8 71 rfl rfl
theorem xp_X12_wordOf : (⟨"MirrorHeirsModel", "wordOf", "(II)I"⟩ : MethodName).cls ≠ "java/lang/invoke/MethodHandle" ∧ (⟨"MirrorHeirsModel", "wordOf", "(II)I"⟩ : MethodName).cls ≠ "java/lang/invoke/VarHandle" ∧ (parseMethodDescriptor (⟨"MirrorHeirsModel", "wordOf", "(II)I"⟩ : MethodName).desc).map (fun d => d.parameters.length) = some 2 := by decide +kernel
theorem xs_X1_addLaw : Cond.instanceMethod ⟨"MirrorHeirs$Hall", "addLaw", "(LMirrorHeirs$Text;)I"⟩ ∈ xTs := xt_4 169 rfl rfl
theorem xq_X1_addLaw : Cond.selects "MirrorHeirs$Hall" ⟨"MirrorHeirs$Hall", "addLaw", "(LMirrorHeirs$Text;)I"⟩ ⟨"MirrorHeirs$Hall", "addLaw", "(LMirrorHeirs$Text;)I"⟩ ∈ xTs := xt_4 170 rfl rfl
theorem xz_X1_addLaw : Cond.initialized "MirrorHeirs$Hall" ∈ xTs := xt_1 2 rfl rfl
theorem xe_X1_addLaw : Cond.code ⟨"MirrorHeirs$Hall", "addLaw", "(LMirrorHeirs$Text;)I"⟩ prog_3_method_10_code 2 (some (.int)) ∈ xTs := xt_4 171 rfl rfl
theorem xp_X1_addLaw : (⟨"MirrorHeirs$Hall", "addLaw", "(LMirrorHeirs$Text;)I"⟩ : MethodName).cls ≠ "java/lang/invoke/MethodHandle" ∧ (⟨"MirrorHeirs$Hall", "addLaw", "(LMirrorHeirs$Text;)I"⟩ : MethodName).cls ≠ "java/lang/invoke/VarHandle" ∧ (parseMethodDescriptor (⟨"MirrorHeirs$Hall", "addLaw", "(LMirrorHeirs$Text;)I"⟩ : MethodName).desc).map (fun d => d.parameters.length) = some 1 := by decide +kernel
theorem xs_X1_copy : Cond.instanceMethod ⟨"MirrorHeirs$Hall", "copy", "(LMirrorHeirs$Hall;)V"⟩ ∈ xTs := xt_4 195 rfl rfl
theorem xq_X1_copy : Cond.selects "MirrorHeirs$Hall" ⟨"MirrorHeirs$Hall", "copy", "(LMirrorHeirs$Hall;)V"⟩ ⟨"MirrorHeirs$Hall", "copy", "(LMirrorHeirs$Hall;)V"⟩ ∈ xTs := xt_4 196 rfl rfl
theorem xz_X1_copy : Cond.initialized "MirrorHeirs$Hall" ∈ xTs := xt_1 2 rfl rfl
theorem xe_X1_copy : Cond.code ⟨"MirrorHeirs$Hall", "copy", "(LMirrorHeirs$Hall;)V"⟩ prog_3_method_12_code 3 none ∈ xTs := xt_4 197 rfl rfl
theorem xp_X1_copy : (⟨"MirrorHeirs$Hall", "copy", "(LMirrorHeirs$Hall;)V"⟩ : MethodName).cls ≠ "java/lang/invoke/MethodHandle" ∧ (⟨"MirrorHeirs$Hall", "copy", "(LMirrorHeirs$Hall;)V"⟩ : MethodName).cls ≠ "java/lang/invoke/VarHandle" ∧ (parseMethodDescriptor (⟨"MirrorHeirs$Hall", "copy", "(LMirrorHeirs$Hall;)V"⟩ : MethodName).desc).map (fun d => d.parameters.length) = some 1 := by decide +kernel
theorem xs_X1_flip : Cond.instanceMethod ⟨"MirrorHeirs$Hall", "flip", "(I)V"⟩ ∈ xTs := xt_3 121 rfl rfl
theorem xq_X1_flip : Cond.selects "MirrorHeirs$Hall" ⟨"MirrorHeirs$Hall", "flip", "(I)V"⟩ ⟨"MirrorHeirs$Hall", "flip", "(I)V"⟩ ∈ xTs := xt_3 122 rfl rfl
theorem xz_X1_flip : Cond.initialized "MirrorHeirs$Hall" ∈ xTs := xt_1 2 rfl rfl
theorem xe_X1_flip : Cond.code ⟨"MirrorHeirs$Hall", "flip", "(I)V"⟩ prog_3_method_6_code 3 none ∈ xTs := xt_3 123 rfl rfl
theorem xp_X1_flip : (⟨"MirrorHeirs$Hall", "flip", "(I)V"⟩ : MethodName).cls ≠ "java/lang/invoke/MethodHandle" ∧ (⟨"MirrorHeirs$Hall", "flip", "(I)V"⟩ : MethodName).cls ≠ "java/lang/invoke/VarHandle" ∧ (parseMethodDescriptor (⟨"MirrorHeirs$Hall", "flip", "(I)V"⟩ : MethodName).desc).map (fun d => d.parameters.length) = some 1 := by decide +kernel
theorem xs_X1_flipAll : Cond.instanceMethod ⟨"MirrorHeirs$Hall", "flipAll", "(I)V"⟩ ∈ xTs := xt_6 13 rfl rfl
theorem xq_X1_flipAll : Cond.selects "MirrorHeirs$Hall" ⟨"MirrorHeirs$Hall", "flipAll", "(I)V"⟩ ⟨"MirrorHeirs$Hall", "flipAll", "(I)V"⟩ ∈ xTs := xt_6 14 rfl rfl
theorem xz_X1_flipAll : Cond.initialized "MirrorHeirs$Hall" ∈ xTs := xt_1 2 rfl rfl
theorem xe_X1_flipAll : Cond.code ⟨"MirrorHeirs$Hall", "flipAll", "(I)V"⟩ prog_3_method_7_code 3 none ∈ xTs := xt_6 15 rfl rfl
theorem xp_X1_flipAll : (⟨"MirrorHeirs$Hall", "flipAll", "(I)V"⟩ : MethodName).cls ≠ "java/lang/invoke/MethodHandle" ∧ (⟨"MirrorHeirs$Hall", "flipAll", "(I)V"⟩ : MethodName).cls ≠ "java/lang/invoke/VarHandle" ∧ (parseMethodDescriptor (⟨"MirrorHeirs$Hall", "flipAll", "(I)V"⟩ : MethodName).desc).map (fun d => d.parameters.length) = some 1 := by decide +kernel
theorem xs_X1_init : Cond.instanceMethod ⟨"MirrorHeirs$Hall", "<init>", "()V"⟩ ∈ xTs := xt_1 33 rfl rfl
theorem xz_X1_init : Cond.initialized "MirrorHeirs$Hall" ∈ xTs := xt_1 2 rfl rfl
theorem xe_X1_init : Cond.code ⟨"MirrorHeirs$Hall", "<init>", "()V"⟩ prog_3_method_1_code 1 none ∈ xTs := xt_1 34 rfl rfl
theorem xp_X1_init : (⟨"MirrorHeirs$Hall", "<init>", "()V"⟩ : MethodName).cls ≠ "java/lang/invoke/MethodHandle" ∧ (⟨"MirrorHeirs$Hall", "<init>", "()V"⟩ : MethodName).cls ≠ "java/lang/invoke/VarHandle" ∧ (parseMethodDescriptor (⟨"MirrorHeirs$Hall", "<init>", "()V"⟩ : MethodName).desc).map (fun d => d.parameters.length) = some 0 := by decide +kernel
theorem xs_X1_kindAt : Cond.instanceMethod ⟨"MirrorHeirs$Hall", "kindAt", "(I)I"⟩ ∈ xTs := xt_3 48 rfl rfl
theorem xq_X1_kindAt : Cond.selects "MirrorHeirs$Hall" ⟨"MirrorHeirs$Hall", "kindAt", "(I)I"⟩ ⟨"MirrorHeirs$Hall", "kindAt", "(I)I"⟩ ∈ xTs := xt_3 49 rfl rfl
theorem xz_X1_kindAt : Cond.initialized "MirrorHeirs$Hall" ∈ xTs := xt_1 2 rfl rfl
theorem xe_X1_kindAt : Cond.code ⟨"MirrorHeirs$Hall", "kindAt", "(I)I"⟩ prog_3_method_2_code 2 (some (.int)) ∈ xTs := xt_3 50 rfl rfl
theorem xp_X1_kindAt : (⟨"MirrorHeirs$Hall", "kindAt", "(I)I"⟩ : MethodName).cls ≠ "java/lang/invoke/MethodHandle" ∧ (⟨"MirrorHeirs$Hall", "kindAt", "(I)I"⟩ : MethodName).cls ≠ "java/lang/invoke/VarHandle" ∧ (parseMethodDescriptor (⟨"MirrorHeirs$Hall", "kindAt", "(I)I"⟩ : MethodName).desc).map (fun d => d.parameters.length) = some 1 := by decide +kernel
theorem xs_X1_lawInForce : Cond.instanceMethod ⟨"MirrorHeirs$Hall", "lawInForce", "()LMirrorHeirs$Text;"⟩ ∈ xTs := xt_4 227 rfl rfl
theorem xq_X1_lawInForce : Cond.selects "MirrorHeirs$Hall" ⟨"MirrorHeirs$Hall", "lawInForce", "()LMirrorHeirs$Text;"⟩ ⟨"MirrorHeirs$Hall", "lawInForce", "()LMirrorHeirs$Text;"⟩ ∈ xTs := xt_4 228 rfl rfl
theorem xz_X1_lawInForce : Cond.initialized "MirrorHeirs$Hall" ∈ xTs := xt_1 2 rfl rfl
theorem xe_X1_lawInForce : Cond.code ⟨"MirrorHeirs$Hall", "lawInForce", "()LMirrorHeirs$Text;"⟩ prog_3_method_11_code 1 (some (.object "MirrorHeirs$Text")) ∈ xTs := xt_4 229 rfl rfl
theorem xp_X1_lawInForce : (⟨"MirrorHeirs$Hall", "lawInForce", "()LMirrorHeirs$Text;"⟩ : MethodName).cls ≠ "java/lang/invoke/MethodHandle" ∧ (⟨"MirrorHeirs$Hall", "lawInForce", "()LMirrorHeirs$Text;"⟩ : MethodName).cls ≠ "java/lang/invoke/VarHandle" ∧ (parseMethodDescriptor (⟨"MirrorHeirs$Hall", "lawInForce", "()LMirrorHeirs$Text;"⟩ : MethodName).desc).map (fun d => d.parameters.length) = some 0 := by decide +kernel
theorem xs_X1_lay : Cond.instanceMethod ⟨"MirrorHeirs$Hall", "lay", "(II)V"⟩ ∈ xTs := xt_3 52 rfl rfl
theorem xq_X1_lay : Cond.selects "MirrorHeirs$Hall" ⟨"MirrorHeirs$Hall", "lay", "(II)V"⟩ ⟨"MirrorHeirs$Hall", "lay", "(II)V"⟩ ∈ xTs := xt_3 53 rfl rfl
theorem xz_X1_lay : Cond.initialized "MirrorHeirs$Hall" ∈ xTs := xt_1 2 rfl rfl
theorem xe_X1_lay : Cond.code ⟨"MirrorHeirs$Hall", "lay", "(II)V"⟩ prog_3_method_5_code 3 none ∈ xTs := xt_3 54 rfl rfl
theorem xp_X1_lay : (⟨"MirrorHeirs$Hall", "lay", "(II)V"⟩ : MethodName).cls ≠ "java/lang/invoke/MethodHandle" ∧ (⟨"MirrorHeirs$Hall", "lay", "(II)V"⟩ : MethodName).cls ≠ "java/lang/invoke/VarHandle" ∧ (parseMethodDescriptor (⟨"MirrorHeirs$Hall", "lay", "(II)V"⟩ : MethodName).desc).map (fun d => d.parameters.length) = some 2 := by decide +kernel
theorem xs_X1_mayLay : Cond.instanceMethod ⟨"MirrorHeirs$Hall", "mayLay", "(II)Z"⟩ ∈ xTs := xt_3 36 rfl rfl
theorem xq_X1_mayLay : Cond.selects "MirrorHeirs$Hall" ⟨"MirrorHeirs$Hall", "mayLay", "(II)Z"⟩ ⟨"MirrorHeirs$Hall", "mayLay", "(II)Z"⟩ ∈ xTs := xt_3 37 rfl rfl
theorem xz_X1_mayLay : Cond.initialized "MirrorHeirs$Hall" ∈ xTs := xt_1 2 rfl rfl
theorem xe_X1_mayLay : Cond.code ⟨"MirrorHeirs$Hall", "mayLay", "(II)Z"⟩ prog_3_method_4_code 3 (some (.boolean)) ∈ xTs := xt_3 38 rfl rfl
theorem xp_X1_mayLay : (⟨"MirrorHeirs$Hall", "mayLay", "(II)Z"⟩ : MethodName).cls ≠ "java/lang/invoke/MethodHandle" ∧ (⟨"MirrorHeirs$Hall", "mayLay", "(II)Z"⟩ : MethodName).cls ≠ "java/lang/invoke/VarHandle" ∧ (parseMethodDescriptor (⟨"MirrorHeirs$Hall", "mayLay", "(II)Z"⟩ : MethodName).desc).map (fun d => d.parameters.length) = some 2 := by decide +kernel
theorem xs_X1_setKind : Cond.instanceMethod ⟨"MirrorHeirs$Hall", "setKind", "(II)V"⟩ ∈ xTs := xt_3 56 rfl rfl
theorem xq_X1_setKind : Cond.selects "MirrorHeirs$Hall" ⟨"MirrorHeirs$Hall", "setKind", "(II)V"⟩ ⟨"MirrorHeirs$Hall", "setKind", "(II)V"⟩ ∈ xTs := xt_3 57 rfl rfl
theorem xz_X1_setKind : Cond.initialized "MirrorHeirs$Hall" ∈ xTs := xt_1 2 rfl rfl
theorem xe_X1_setKind : Cond.code ⟨"MirrorHeirs$Hall", "setKind", "(II)V"⟩ prog_3_method_3_code 3 none ∈ xTs := xt_3 58 rfl rfl
theorem xp_X1_setKind : (⟨"MirrorHeirs$Hall", "setKind", "(II)V"⟩ : MethodName).cls ≠ "java/lang/invoke/MethodHandle" ∧ (⟨"MirrorHeirs$Hall", "setKind", "(II)V"⟩ : MethodName).cls ≠ "java/lang/invoke/VarHandle" ∧ (parseMethodDescriptor (⟨"MirrorHeirs$Hall", "setKind", "(II)V"⟩ : MethodName).desc).map (fun d => d.parameters.length) = some 2 := by decide +kernel
theorem xs_X1_setTerm : Cond.instanceMethod ⟨"MirrorHeirs$Hall", "setTerm", "(II)V"⟩ ∈ xTs := xt_3 178 rfl rfl
theorem xq_X1_setTerm : Cond.selects "MirrorHeirs$Hall" ⟨"MirrorHeirs$Hall", "setTerm", "(II)V"⟩ ⟨"MirrorHeirs$Hall", "setTerm", "(II)V"⟩ ∈ xTs := xt_3 179 rfl rfl
theorem xz_X1_setTerm : Cond.initialized "MirrorHeirs$Hall" ∈ xTs := xt_1 2 rfl rfl
theorem xe_X1_setTerm : Cond.code ⟨"MirrorHeirs$Hall", "setTerm", "(II)V"⟩ prog_3_method_9_code 3 none ∈ xTs := xt_3 180 rfl rfl
theorem xp_X1_setTerm : (⟨"MirrorHeirs$Hall", "setTerm", "(II)V"⟩ : MethodName).cls ≠ "java/lang/invoke/MethodHandle" ∧ (⟨"MirrorHeirs$Hall", "setTerm", "(II)V"⟩ : MethodName).cls ≠ "java/lang/invoke/VarHandle" ∧ (parseMethodDescriptor (⟨"MirrorHeirs$Hall", "setTerm", "(II)V"⟩ : MethodName).desc).map (fun d => d.parameters.length) = some 2 := by decide +kernel
theorem xs_X1_term : Cond.instanceMethod ⟨"MirrorHeirs$Hall", "term", "(I)I"⟩ ∈ xTs := xt_3 174 rfl rfl
theorem xq_X1_term : Cond.selects "MirrorHeirs$Hall" ⟨"MirrorHeirs$Hall", "term", "(I)I"⟩ ⟨"MirrorHeirs$Hall", "term", "(I)I"⟩ ∈ xTs := xt_3 175 rfl rfl
theorem xz_X1_term : Cond.initialized "MirrorHeirs$Hall" ∈ xTs := xt_1 2 rfl rfl
theorem xe_X1_term : Cond.code ⟨"MirrorHeirs$Hall", "term", "(I)I"⟩ prog_3_method_8_code 2 (some (.int)) ∈ xTs := xt_3 176 rfl rfl
theorem xp_X1_term : (⟨"MirrorHeirs$Hall", "term", "(I)I"⟩ : MethodName).cls ≠ "java/lang/invoke/MethodHandle" ∧ (⟨"MirrorHeirs$Hall", "term", "(I)I"⟩ : MethodName).cls ≠ "java/lang/invoke/VarHandle" ∧ (parseMethodDescriptor (⟨"MirrorHeirs$Hall", "term", "(I)I"⟩ : MethodName).desc).map (fun d => d.parameters.length) = some 1 := by decide +kernel
theorem xs_X2_cover : Cond.instanceMethod ⟨"MirrorHeirs$Places", "cover", "(IIJJ)V"⟩ ∈ xTs := xt_5 208 rfl rfl
theorem xq_X2_cover : Cond.selects "MirrorHeirs$Places" ⟨"MirrorHeirs$Places", "cover", "(IIJJ)V"⟩ ⟨"MirrorHeirs$Places", "cover", "(IIJJ)V"⟩ ∈ xTs := xp3 7 rfl
theorem xz_X2_cover : Cond.initialized "MirrorHeirs$Places" ∈ xTs := xt_1 12 rfl rfl
theorem xe_X2_cover : Cond.code ⟨"MirrorHeirs$Places", "cover", "(IIJJ)V"⟩ prog_4_method_4_code 10 none ∈ xTs := xt_5 209 rfl rfl
theorem xp_X2_cover : (⟨"MirrorHeirs$Places", "cover", "(IIJJ)V"⟩ : MethodName).cls ≠ "java/lang/invoke/MethodHandle" ∧ (⟨"MirrorHeirs$Places", "cover", "(IIJJ)V"⟩ : MethodName).cls ≠ "java/lang/invoke/VarHandle" ∧ (parseMethodDescriptor (⟨"MirrorHeirs$Places", "cover", "(IIJJ)V"⟩ : MethodName).desc).map (fun d => d.parameters.length) = some 4 := by decide +kernel
theorem xs_X2_coverAll : Cond.instanceMethod ⟨"MirrorHeirs$Places", "coverAll", "(I)V"⟩ ∈ xTs := xt_5 196 rfl rfl
theorem xq_X2_coverAll : Cond.selects "MirrorHeirs$Places" ⟨"MirrorHeirs$Places", "coverAll", "(I)V"⟩ ⟨"MirrorHeirs$Places", "coverAll", "(I)V"⟩ ∈ xTs := xt_5 197 rfl rfl
theorem xz_X2_coverAll : Cond.initialized "MirrorHeirs$Places" ∈ xTs := xt_1 12 rfl rfl
theorem xe_X2_coverAll : Cond.code ⟨"MirrorHeirs$Places", "coverAll", "(I)V"⟩ prog_4_method_2_code 3 none ∈ xTs := xt_5 198 rfl rfl
theorem xp_X2_coverAll : (⟨"MirrorHeirs$Places", "coverAll", "(I)V"⟩ : MethodName).cls ≠ "java/lang/invoke/MethodHandle" ∧ (⟨"MirrorHeirs$Places", "coverAll", "(I)V"⟩ : MethodName).cls ≠ "java/lang/invoke/VarHandle" ∧ (parseMethodDescriptor (⟨"MirrorHeirs$Places", "coverAll", "(I)V"⟩ : MethodName).desc).map (fun d => d.parameters.length) = some 1 := by decide +kernel
theorem xs_X2_firstCell : Cond.instanceMethod ⟨"MirrorHeirs$Places", "firstCell", "(I)I"⟩ ∈ xTs := xt_5 221 rfl rfl
theorem xq_X2_firstCell : Cond.selects "MirrorHeirs$Places" ⟨"MirrorHeirs$Places", "firstCell", "(I)I"⟩ ⟨"MirrorHeirs$Places", "firstCell", "(I)I"⟩ ∈ xTs := xt_5 222 rfl rfl
theorem xz_X2_firstCell : Cond.initialized "MirrorHeirs$Places" ∈ xTs := xt_1 12 rfl rfl
theorem xe_X2_firstCell : Cond.code ⟨"MirrorHeirs$Places", "firstCell", "(I)I"⟩ prog_4_method_6_code 2 (some (.int)) ∈ xTs := xt_5 223 rfl rfl
theorem xp_X2_firstCell : (⟨"MirrorHeirs$Places", "firstCell", "(I)I"⟩ : MethodName).cls ≠ "java/lang/invoke/MethodHandle" ∧ (⟨"MirrorHeirs$Places", "firstCell", "(I)I"⟩ : MethodName).cls ≠ "java/lang/invoke/VarHandle" ∧ (parseMethodDescriptor (⟨"MirrorHeirs$Places", "firstCell", "(I)I"⟩ : MethodName).desc).map (fun d => d.parameters.length) = some 1 := by decide +kernel
theorem xs_X2_group : Cond.instanceMethod ⟨"MirrorHeirs$Places", "group", "(II)V"⟩ ∈ xTs := xt_5 204 rfl rfl
theorem xq_X2_group : Cond.selects "MirrorHeirs$Places" ⟨"MirrorHeirs$Places", "group", "(II)V"⟩ ⟨"MirrorHeirs$Places", "group", "(II)V"⟩ ∈ xTs := xp3 6 rfl
theorem xz_X2_group : Cond.initialized "MirrorHeirs$Places" ∈ xTs := xt_1 12 rfl rfl
theorem xe_X2_group : Cond.code ⟨"MirrorHeirs$Places", "group", "(II)V"⟩ prog_4_method_3_code 4 none ∈ xTs := xt_5 205 rfl rfl
theorem xp_X2_group : (⟨"MirrorHeirs$Places", "group", "(II)V"⟩ : MethodName).cls ≠ "java/lang/invoke/MethodHandle" ∧ (⟨"MirrorHeirs$Places", "group", "(II)V"⟩ : MethodName).cls ≠ "java/lang/invoke/VarHandle" ∧ (parseMethodDescriptor (⟨"MirrorHeirs$Places", "group", "(II)V"⟩ : MethodName).desc).map (fun d => d.parameters.length) = some 2 := by decide +kernel
theorem xs_X2_hidingCells : Cond.instanceMethod ⟨"MirrorHeirs$Places", "hidingCells", "(II)J"⟩ ∈ xTs := xt_6 80 rfl rfl
theorem xq_X2_hidingCells : Cond.selects "MirrorHeirs$Places" ⟨"MirrorHeirs$Places", "hidingCells", "(II)J"⟩ ⟨"MirrorHeirs$Places", "hidingCells", "(II)J"⟩ ∈ xTs := xt_6 81 rfl rfl
theorem xz_X2_hidingCells : Cond.initialized "MirrorHeirs$Places" ∈ xTs := xt_1 12 rfl rfl
theorem xe_X2_hidingCells : Cond.code ⟨"MirrorHeirs$Places", "hidingCells", "(II)J"⟩ prog_4_method_8_code 8 (some (.long)) ∈ xTs := xt_6 82 rfl rfl
theorem xp_X2_hidingCells : (⟨"MirrorHeirs$Places", "hidingCells", "(II)J"⟩ : MethodName).cls ≠ "java/lang/invoke/MethodHandle" ∧ (⟨"MirrorHeirs$Places", "hidingCells", "(II)J"⟩ : MethodName).cls ≠ "java/lang/invoke/VarHandle" ∧ (parseMethodDescriptor (⟨"MirrorHeirs$Places", "hidingCells", "(II)J"⟩ : MethodName).desc).map (fun d => d.parameters.length) = some 2 := by decide +kernel
theorem xs_X2_init : Cond.instanceMethod ⟨"MirrorHeirs$Places", "<init>", "(LMirrorHeirs$Hall;LMirrorHeirs$Sight;)V"⟩ ∈ xTs := xt_2 122 rfl rfl
theorem xz_X2_init : Cond.initialized "MirrorHeirs$Places" ∈ xTs := xt_1 12 rfl rfl
theorem xe_X2_init : Cond.code ⟨"MirrorHeirs$Places", "<init>", "(LMirrorHeirs$Hall;LMirrorHeirs$Sight;)V"⟩ prog_4_method_1_code 3 none ∈ xTs := xt_2 123 rfl rfl
theorem xp_X2_init : (⟨"MirrorHeirs$Places", "<init>", "(LMirrorHeirs$Hall;LMirrorHeirs$Sight;)V"⟩ : MethodName).cls ≠ "java/lang/invoke/MethodHandle" ∧ (⟨"MirrorHeirs$Places", "<init>", "(LMirrorHeirs$Hall;LMirrorHeirs$Sight;)V"⟩ : MethodName).cls ≠ "java/lang/invoke/VarHandle" ∧ (parseMethodDescriptor (⟨"MirrorHeirs$Places", "<init>", "(LMirrorHeirs$Hall;LMirrorHeirs$Sight;)V"⟩ : MethodName).desc).map (fun d => d.parameters.length) = some 2 := by decide +kernel
theorem xs_X2_pairsBehind : Cond.instanceMethod ⟨"MirrorHeirs$Places", "pairsBehind", "(I)I"⟩ ∈ xTs := xt_6 90 rfl rfl
theorem xq_X2_pairsBehind : Cond.selects "MirrorHeirs$Places" ⟨"MirrorHeirs$Places", "pairsBehind", "(I)I"⟩ ⟨"MirrorHeirs$Places", "pairsBehind", "(I)I"⟩ ∈ xTs := xt_6 91 rfl rfl
theorem xz_X2_pairsBehind : Cond.initialized "MirrorHeirs$Places" ∈ xTs := xt_1 12 rfl rfl
theorem xe_X2_pairsBehind : Cond.code ⟨"MirrorHeirs$Places", "pairsBehind", "(I)I"⟩ prog_4_method_9_code 6 (some (.int)) ∈ xTs := xt_6 92 rfl rfl
theorem xp_X2_pairsBehind : (⟨"MirrorHeirs$Places", "pairsBehind", "(I)I"⟩ : MethodName).cls ≠ "java/lang/invoke/MethodHandle" ∧ (⟨"MirrorHeirs$Places", "pairsBehind", "(I)I"⟩ : MethodName).cls ≠ "java/lang/invoke/VarHandle" ∧ (parseMethodDescriptor (⟨"MirrorHeirs$Places", "pairsBehind", "(I)I"⟩ : MethodName).desc).map (fun d => d.parameters.length) = some 1 := by decide +kernel
theorem xs_X2_rest : Cond.instanceMethod ⟨"MirrorHeirs$Places", "rest", "(IJJ)V"⟩ ∈ xTs := xt_5 212 rfl rfl
theorem xq_X2_rest : Cond.selects "MirrorHeirs$Places" ⟨"MirrorHeirs$Places", "rest", "(IJJ)V"⟩ ⟨"MirrorHeirs$Places", "rest", "(IJJ)V"⟩ ∈ xTs := xp3 8 rfl
theorem xz_X2_rest : Cond.initialized "MirrorHeirs$Places" ∈ xTs := xt_1 12 rfl rfl
theorem xe_X2_rest : Cond.code ⟨"MirrorHeirs$Places", "rest", "(IJJ)V"⟩ prog_4_method_5_code 15 none ∈ xTs := xt_5 213 rfl rfl
theorem xp_X2_rest : (⟨"MirrorHeirs$Places", "rest", "(IJJ)V"⟩ : MethodName).cls ≠ "java/lang/invoke/MethodHandle" ∧ (⟨"MirrorHeirs$Places", "rest", "(IJJ)V"⟩ : MethodName).cls ≠ "java/lang/invoke/VarHandle" ∧ (parseMethodDescriptor (⟨"MirrorHeirs$Places", "rest", "(IJJ)V"⟩ : MethodName).desc).map (fun d => d.parameters.length) = some 3 := by decide +kernel
theorem xs_X2_strangerCells : Cond.instanceMethod ⟨"MirrorHeirs$Places", "strangerCells", "()J"⟩ ∈ xTs := xt_6 47 rfl rfl
theorem xq_X2_strangerCells : Cond.selects "MirrorHeirs$Places" ⟨"MirrorHeirs$Places", "strangerCells", "()J"⟩ ⟨"MirrorHeirs$Places", "strangerCells", "()J"⟩ ∈ xTs := xt_6 48 rfl rfl
theorem xz_X2_strangerCells : Cond.initialized "MirrorHeirs$Places" ∈ xTs := xt_1 12 rfl rfl
theorem xe_X2_strangerCells : Cond.code ⟨"MirrorHeirs$Places", "strangerCells", "()J"⟩ prog_4_method_7_code 6 (some (.long)) ∈ xTs := xt_6 49 rfl rfl
theorem xp_X2_strangerCells : (⟨"MirrorHeirs$Places", "strangerCells", "()J"⟩ : MethodName).cls ≠ "java/lang/invoke/MethodHandle" ∧ (⟨"MirrorHeirs$Places", "strangerCells", "()J"⟩ : MethodName).cls ≠ "java/lang/invoke/VarHandle" ∧ (parseMethodDescriptor (⟨"MirrorHeirs$Places", "strangerCells", "()J"⟩ : MethodName).desc).map (fun d => d.parameters.length) = some 0 := by decide +kernel
theorem xs_X3_advance : Cond.instanceMethod ⟨"MirrorHeirs$Reader", "advance", "()V"⟩ ∈ xTs := xt_3 224 rfl rfl
theorem xq_X3_advance : Cond.selects "MirrorHeirs$Reader" ⟨"MirrorHeirs$Reader", "advance", "()V"⟩ ⟨"MirrorHeirs$Reader", "advance", "()V"⟩ ∈ xTs := xp1 6 rfl
theorem xz_X3_advance : Cond.initialized "MirrorHeirs$Reader" ∈ xTs := xt_1 9 rfl rfl
theorem xe_X3_advance : Cond.code ⟨"MirrorHeirs$Reader", "advance", "()V"⟩ prog_5_method_23_code 3 none ∈ xTs := xt_3 225 rfl rfl
theorem xp_X3_advance : (⟨"MirrorHeirs$Reader", "advance", "()V"⟩ : MethodName).cls ≠ "java/lang/invoke/MethodHandle" ∧ (⟨"MirrorHeirs$Reader", "advance", "()V"⟩ : MethodName).cls ≠ "java/lang/invoke/VarHandle" ∧ (parseMethodDescriptor (⟨"MirrorHeirs$Reader", "advance", "()V"⟩ : MethodName).desc).map (fun d => d.parameters.length) = some 0 := by decide +kernel
theorem xs_X3_begin : Cond.instanceMethod ⟨"MirrorHeirs$Reader", "begin", "(IZ)V"⟩ ∈ xTs := xt_3 211 rfl rfl
theorem xq_X3_begin : Cond.selects "MirrorHeirs$Reader" ⟨"MirrorHeirs$Reader", "begin", "(IZ)V"⟩ ⟨"MirrorHeirs$Reader", "begin", "(IZ)V"⟩ ∈ xTs := xp1 5 rfl
theorem xz_X3_begin : Cond.initialized "MirrorHeirs$Reader" ∈ xTs := xt_1 9 rfl rfl
theorem xe_X3_begin : Cond.code ⟨"MirrorHeirs$Reader", "begin", "(IZ)V"⟩ prog_5_method_4_code 3 none ∈ xTs := xt_3 212 rfl rfl
theorem xp_X3_begin : (⟨"MirrorHeirs$Reader", "begin", "(IZ)V"⟩ : MethodName).cls ≠ "java/lang/invoke/MethodHandle" ∧ (⟨"MirrorHeirs$Reader", "begin", "(IZ)V"⟩ : MethodName).cls ≠ "java/lang/invoke/VarHandle" ∧ (parseMethodDescriptor (⟨"MirrorHeirs$Reader", "begin", "(IZ)V"⟩ : MethodName).desc).map (fun d => d.parameters.length) = some 2 := by decide +kernel
theorem xs_X3_byteAt : Cond.instanceMethod ⟨"MirrorHeirs$Reader", "byteAt", "(I)I"⟩ ∈ xTs := xt_3 228 rfl rfl
theorem xq_X3_byteAt : Cond.selects "MirrorHeirs$Reader" ⟨"MirrorHeirs$Reader", "byteAt", "(I)I"⟩ ⟨"MirrorHeirs$Reader", "byteAt", "(I)I"⟩ ∈ xTs := xp1 7 rfl
theorem xz_X3_byteAt : Cond.initialized "MirrorHeirs$Reader" ∈ xTs := xt_1 9 rfl rfl
theorem xe_X3_byteAt : Cond.code ⟨"MirrorHeirs$Reader", "byteAt", "(I)I"⟩ prog_5_method_24_code 2 (some (.int)) ∈ xTs := xt_3 229 rfl rfl
theorem xp_X3_byteAt : (⟨"MirrorHeirs$Reader", "byteAt", "(I)I"⟩ : MethodName).cls ≠ "java/lang/invoke/MethodHandle" ∧ (⟨"MirrorHeirs$Reader", "byteAt", "(I)I"⟩ : MethodName).cls ≠ "java/lang/invoke/VarHandle" ∧ (parseMethodDescriptor (⟨"MirrorHeirs$Reader", "byteAt", "(I)I"⟩ : MethodName).desc).map (fun d => d.parameters.length) = some 1 := by decide +kernel
theorem xs_X3_clause : Cond.instanceMethod ⟨"MirrorHeirs$Reader", "clause", "(I)V"⟩ ∈ xTs := xt_3 239 rfl rfl
theorem xq_X3_clause : Cond.selects "MirrorHeirs$Reader" ⟨"MirrorHeirs$Reader", "clause", "(I)V"⟩ ⟨"MirrorHeirs$Reader", "clause", "(I)V"⟩ ∈ xTs := xp1 8 rfl
theorem xz_X3_clause : Cond.initialized "MirrorHeirs$Reader" ∈ xTs := xt_1 9 rfl rfl
theorem xe_X3_clause : Cond.code ⟨"MirrorHeirs$Reader", "clause", "(I)V"⟩ prog_5_method_7_code 2 none ∈ xTs := xt_4 0 rfl rfl
theorem xp_X3_clause : (⟨"MirrorHeirs$Reader", "clause", "(I)V"⟩ : MethodName).cls ≠ "java/lang/invoke/MethodHandle" ∧ (⟨"MirrorHeirs$Reader", "clause", "(I)V"⟩ : MethodName).cls ≠ "java/lang/invoke/VarHandle" ∧ (parseMethodDescriptor (⟨"MirrorHeirs$Reader", "clause", "(I)V"⟩ : MethodName).desc).map (fun d => d.parameters.length) = some 1 := by decide +kernel
theorem xs_X3_condition : Cond.instanceMethod ⟨"MirrorHeirs$Reader", "condition", "(I)V"⟩ ∈ xTs := xt_4 125 rfl rfl
theorem xq_X3_condition : Cond.selects "MirrorHeirs$Reader" ⟨"MirrorHeirs$Reader", "condition", "(I)V"⟩ ⟨"MirrorHeirs$Reader", "condition", "(I)V"⟩ ∈ xTs := xp2 4 rfl
theorem xz_X3_condition : Cond.initialized "MirrorHeirs$Reader" ∈ xTs := xt_1 9 rfl rfl
theorem xe_X3_condition : Cond.code ⟨"MirrorHeirs$Reader", "condition", "(I)V"⟩ prog_5_method_9_code 2 none ∈ xTs := xt_4 126 rfl rfl
theorem xp_X3_condition : (⟨"MirrorHeirs$Reader", "condition", "(I)V"⟩ : MethodName).cls ≠ "java/lang/invoke/MethodHandle" ∧ (⟨"MirrorHeirs$Reader", "condition", "(I)V"⟩ : MethodName).cls ≠ "java/lang/invoke/VarHandle" ∧ (parseMethodDescriptor (⟨"MirrorHeirs$Reader", "condition", "(I)V"⟩ : MethodName).desc).map (fun d => d.parameters.length) = some 1 := by decide +kernel
theorem xs_X3_fail : Cond.instanceMethod ⟨"MirrorHeirs$Reader", "fail", "()I"⟩ ∈ xTs := xt_4 79 rfl rfl
theorem xq_X3_fail : Cond.selects "MirrorHeirs$Reader" ⟨"MirrorHeirs$Reader", "fail", "()I"⟩ ⟨"MirrorHeirs$Reader", "fail", "()I"⟩ ∈ xTs := xp1 15 rfl
theorem xz_X3_fail : Cond.initialized "MirrorHeirs$Reader" ∈ xTs := xt_1 9 rfl rfl
theorem xe_X3_fail : Cond.code ⟨"MirrorHeirs$Reader", "fail", "()I"⟩ prog_5_method_6_code 1 (some (.int)) ∈ xTs := xt_4 80 rfl rfl
theorem xp_X3_fail : (⟨"MirrorHeirs$Reader", "fail", "()I"⟩ : MethodName).cls ≠ "java/lang/invoke/MethodHandle" ∧ (⟨"MirrorHeirs$Reader", "fail", "()I"⟩ : MethodName).cls ≠ "java/lang/invoke/VarHandle" ∧ (parseMethodDescriptor (⟨"MirrorHeirs$Reader", "fail", "()I"⟩ : MethodName).desc).map (fun d => d.parameters.length) = some 0 := by decide +kernel
theorem xs_X3_finish : Cond.instanceMethod ⟨"MirrorHeirs$Reader", "finish", "()I"⟩ ∈ xTs := xt_4 155 rfl rfl
theorem xq_X3_finish : Cond.selects "MirrorHeirs$Reader" ⟨"MirrorHeirs$Reader", "finish", "()I"⟩ ⟨"MirrorHeirs$Reader", "finish", "()I"⟩ ∈ xTs := xp2 8 rfl
theorem xz_X3_finish : Cond.initialized "MirrorHeirs$Reader" ∈ xTs := xt_1 9 rfl rfl
theorem xe_X3_finish : Cond.code ⟨"MirrorHeirs$Reader", "finish", "()I"⟩ prog_5_method_5_code 1 (some (.int)) ∈ xTs := xt_4 156 rfl rfl
theorem xp_X3_finish : (⟨"MirrorHeirs$Reader", "finish", "()I"⟩ : MethodName).cls ≠ "java/lang/invoke/MethodHandle" ∧ (⟨"MirrorHeirs$Reader", "finish", "()I"⟩ : MethodName).cls ≠ "java/lang/invoke/VarHandle" ∧ (parseMethodDescriptor (⟨"MirrorHeirs$Reader", "finish", "()I"⟩ : MethodName).desc).map (fun d => d.parameters.length) = some 0 := by decide +kernel
theorem xs_X3_init : Cond.instanceMethod ⟨"MirrorHeirs$Reader", "<init>", "([I)V"⟩ ∈ xTs := xt_1 227 rfl rfl
theorem xz_X3_init : Cond.initialized "MirrorHeirs$Reader" ∈ xTs := xt_1 9 rfl rfl
theorem xe_X3_init : Cond.code ⟨"MirrorHeirs$Reader", "<init>", "([I)V"⟩ prog_5_method_1_code 2 none ∈ xTs := xt_1 228 rfl rfl
theorem xp_X3_init : (⟨"MirrorHeirs$Reader", "<init>", "([I)V"⟩ : MethodName).cls ≠ "java/lang/invoke/MethodHandle" ∧ (⟨"MirrorHeirs$Reader", "<init>", "([I)V"⟩ : MethodName).cls ≠ "java/lang/invoke/VarHandle" ∧ (parseMethodDescriptor (⟨"MirrorHeirs$Reader", "<init>", "([I)V"⟩ : MethodName).desc).map (fun d => d.parameters.length) = some 1 := by decide +kernel
theorem xs_X3_is : Cond.instanceMethod ⟨"MirrorHeirs$Reader", "is", "(Ljava/lang/String;)Z"⟩ ∈ xTs := xt_4 4 rfl rfl
theorem xq_X3_is : Cond.selects "MirrorHeirs$Reader" ⟨"MirrorHeirs$Reader", "is", "(Ljava/lang/String;)Z"⟩ ⟨"MirrorHeirs$Reader", "is", "(Ljava/lang/String;)Z"⟩ ∈ xTs := xp1 9 rfl
theorem xz_X3_is : Cond.initialized "MirrorHeirs$Reader" ∈ xTs := xt_1 9 rfl rfl
theorem xe_X3_is : Cond.code ⟨"MirrorHeirs$Reader", "is", "(Ljava/lang/String;)Z"⟩ prog_5_method_22_code 3 (some (.boolean)) ∈ xTs := xt_4 5 rfl rfl
theorem xp_X3_is : (⟨"MirrorHeirs$Reader", "is", "(Ljava/lang/String;)Z"⟩ : MethodName).cls ≠ "java/lang/invoke/MethodHandle" ∧ (⟨"MirrorHeirs$Reader", "is", "(Ljava/lang/String;)Z"⟩ : MethodName).cls ≠ "java/lang/invoke/VarHandle" ∧ (parseMethodDescriptor (⟨"MirrorHeirs$Reader", "is", "(Ljava/lang/String;)Z"⟩ : MethodName).desc).map (fun d => d.parameters.length) = some 1 := by decide +kernel
theorem xs_X3_isDigit : Cond.static ⟨"MirrorHeirs$Reader", "isDigit", "(I)Z"⟩ ∈ xTs := xt_3 234 rfl rfl
theorem xz_X3_isDigit : Cond.initialized "MirrorHeirs$Reader" ∈ xTs := xt_1 9 rfl rfl
theorem xe_X3_isDigit : Cond.code ⟨"MirrorHeirs$Reader", "isDigit", "(I)Z"⟩ prog_5_method_26_code 1 (some (.boolean)) ∈ xTs := xt_3 235 rfl rfl
theorem xp_X3_isDigit : (⟨"MirrorHeirs$Reader", "isDigit", "(I)Z"⟩ : MethodName).cls ≠ "java/lang/invoke/MethodHandle" ∧ (⟨"MirrorHeirs$Reader", "isDigit", "(I)Z"⟩ : MethodName).cls ≠ "java/lang/invoke/VarHandle" ∧ (parseMethodDescriptor (⟨"MirrorHeirs$Reader", "isDigit", "(I)Z"⟩ : MethodName).desc).map (fun d => d.parameters.length) = some 1 := by decide +kernel
theorem xs_X3_isLetter : Cond.static ⟨"MirrorHeirs$Reader", "isLetter", "(I)Z"⟩ ∈ xTs := xt_3 231 rfl rfl
theorem xz_X3_isLetter : Cond.initialized "MirrorHeirs$Reader" ∈ xTs := xt_1 9 rfl rfl
theorem xe_X3_isLetter : Cond.code ⟨"MirrorHeirs$Reader", "isLetter", "(I)Z"⟩ prog_5_method_25_code 1 (some (.boolean)) ∈ xTs := xt_3 232 rfl rfl
theorem xp_X3_isLetter : (⟨"MirrorHeirs$Reader", "isLetter", "(I)Z"⟩ : MethodName).cls ≠ "java/lang/invoke/MethodHandle" ∧ (⟨"MirrorHeirs$Reader", "isLetter", "(I)Z"⟩ : MethodName).cls ≠ "java/lang/invoke/VarHandle" ∧ (parseMethodDescriptor (⟨"MirrorHeirs$Reader", "isLetter", "(I)Z"⟩ : MethodName).desc).map (fun d => d.parameters.length) = some 1 := by decide +kernel
theorem xs_X3_order : Cond.instanceMethod ⟨"MirrorHeirs$Reader", "order", "(I)V"⟩ ∈ xTs := xt_4 183 rfl rfl
theorem xq_X3_order : Cond.selects "MirrorHeirs$Reader" ⟨"MirrorHeirs$Reader", "order", "(I)V"⟩ ⟨"MirrorHeirs$Reader", "order", "(I)V"⟩ ∈ xTs := xp2 9 rfl
theorem xz_X3_order : Cond.initialized "MirrorHeirs$Reader" ∈ xTs := xt_1 9 rfl rfl
theorem xe_X3_order : Cond.code ⟨"MirrorHeirs$Reader", "order", "(I)V"⟩ prog_5_method_8_code 2 none ∈ xTs := xt_4 184 rfl rfl
theorem xp_X3_order : (⟨"MirrorHeirs$Reader", "order", "(I)V"⟩ : MethodName).cls ≠ "java/lang/invoke/MethodHandle" ∧ (⟨"MirrorHeirs$Reader", "order", "(I)V"⟩ : MethodName).cls ≠ "java/lang/invoke/VarHandle" ∧ (parseMethodDescriptor (⟨"MirrorHeirs$Reader", "order", "(I)V"⟩ : MethodName).desc).map (fun d => d.parameters.length) = some 1 := by decide +kernel
theorem xs_X3_readLaw : Cond.instanceMethod ⟨"MirrorHeirs$Reader", "readLaw", "(I)I"⟩ ∈ xTs := xt_3 206 rfl rfl
theorem xq_X3_readLaw : Cond.selects "MirrorHeirs$Reader" ⟨"MirrorHeirs$Reader", "readLaw", "(I)I"⟩ ⟨"MirrorHeirs$Reader", "readLaw", "(I)I"⟩ ∈ xTs := xt_3 207 rfl rfl
theorem xz_X3_readLaw : Cond.initialized "MirrorHeirs$Reader" ∈ xTs := xt_1 9 rfl rfl
theorem xe_X3_readLaw : Cond.code ⟨"MirrorHeirs$Reader", "readLaw", "(I)I"⟩ prog_5_method_2_code 3 (some (.int)) ∈ xTs := xt_3 208 rfl rfl
theorem xp_X3_readLaw : (⟨"MirrorHeirs$Reader", "readLaw", "(I)I"⟩ : MethodName).cls ≠ "java/lang/invoke/MethodHandle" ∧ (⟨"MirrorHeirs$Reader", "readLaw", "(I)I"⟩ : MethodName).cls ≠ "java/lang/invoke/VarHandle" ∧ (parseMethodDescriptor (⟨"MirrorHeirs$Reader", "readLaw", "(I)I"⟩ : MethodName).desc).map (fun d => d.parameters.length) = some 1 := by decide +kernel
theorem xs_X3_readOrders : Cond.instanceMethod ⟨"MirrorHeirs$Reader", "readOrders", "(I)I"⟩ ∈ xTs := xt_4 178 rfl rfl
theorem xq_X3_readOrders : Cond.selects "MirrorHeirs$Reader" ⟨"MirrorHeirs$Reader", "readOrders", "(I)I"⟩ ⟨"MirrorHeirs$Reader", "readOrders", "(I)I"⟩ ∈ xTs := xt_4 179 rfl rfl
theorem xz_X3_readOrders : Cond.initialized "MirrorHeirs$Reader" ∈ xTs := xt_1 9 rfl rfl
theorem xe_X3_readOrders : Cond.code ⟨"MirrorHeirs$Reader", "readOrders", "(I)I"⟩ prog_5_method_3_code 3 (some (.int)) ∈ xTs := xt_4 180 rfl rfl
theorem xp_X3_readOrders : (⟨"MirrorHeirs$Reader", "readOrders", "(I)I"⟩ : MethodName).cls ≠ "java/lang/invoke/MethodHandle" ∧ (⟨"MirrorHeirs$Reader", "readOrders", "(I)I"⟩ : MethodName).cls ≠ "java/lang/invoke/VarHandle" ∧ (parseMethodDescriptor (⟨"MirrorHeirs$Reader", "readOrders", "(I)I"⟩ : MethodName).desc).map (fun d => d.parameters.length) = some 1 := by decide +kernel
theorem xs_X3_sum : Cond.instanceMethod ⟨"MirrorHeirs$Reader", "sum", "()V"⟩ ∈ xTs := xt_4 62 rfl rfl
theorem xq_X3_sum : Cond.selects "MirrorHeirs$Reader" ⟨"MirrorHeirs$Reader", "sum", "()V"⟩ ⟨"MirrorHeirs$Reader", "sum", "()V"⟩ ∈ xTs := xp1 11 rfl
theorem xz_X3_sum : Cond.initialized "MirrorHeirs$Reader" ∈ xTs := xt_1 9 rfl rfl
theorem xe_X3_sum : Cond.code ⟨"MirrorHeirs$Reader", "sum", "()V"⟩ prog_5_method_13_code 3 none ∈ xTs := xt_4 63 rfl rfl
theorem xp_X3_sum : (⟨"MirrorHeirs$Reader", "sum", "()V"⟩ : MethodName).cls ≠ "java/lang/invoke/MethodHandle" ∧ (⟨"MirrorHeirs$Reader", "sum", "()V"⟩ : MethodName).cls ≠ "java/lang/invoke/VarHandle" ∧ (parseMethodDescriptor (⟨"MirrorHeirs$Reader", "sum", "()V"⟩ : MethodName).desc).map (fun d => d.parameters.length) = some 0 := by decide +kernel
theorem xs_X3_take : Cond.instanceMethod ⟨"MirrorHeirs$Reader", "take", "(Ljava/lang/String;)Z"⟩ ∈ xTs := xt_4 57 rfl rfl
theorem xq_X3_take : Cond.selects "MirrorHeirs$Reader" ⟨"MirrorHeirs$Reader", "take", "(Ljava/lang/String;)Z"⟩ ⟨"MirrorHeirs$Reader", "take", "(Ljava/lang/String;)Z"⟩ ∈ xTs := xp1 10 rfl
theorem xz_X3_take : Cond.initialized "MirrorHeirs$Reader" ∈ xTs := xt_1 9 rfl rfl
theorem xe_X3_take : Cond.code ⟨"MirrorHeirs$Reader", "take", "(Ljava/lang/String;)Z"⟩ prog_5_method_21_code 2 (some (.boolean)) ∈ xTs := xt_4 58 rfl rfl
theorem xp_X3_take : (⟨"MirrorHeirs$Reader", "take", "(Ljava/lang/String;)Z"⟩ : MethodName).cls ≠ "java/lang/invoke/MethodHandle" ∧ (⟨"MirrorHeirs$Reader", "take", "(Ljava/lang/String;)Z"⟩ : MethodName).cls ≠ "java/lang/invoke/VarHandle" ∧ (parseMethodDescriptor (⟨"MirrorHeirs$Reader", "take", "(Ljava/lang/String;)Z"⟩ : MethodName).desc).map (fun d => d.parameters.length) = some 1 := by decide +kernel
theorem xs_X3_test : Cond.instanceMethod ⟨"MirrorHeirs$Reader", "test", "()V"⟩ ∈ xTs := xt_4 130 rfl rfl
theorem xq_X3_test : Cond.selects "MirrorHeirs$Reader" ⟨"MirrorHeirs$Reader", "test", "()V"⟩ ⟨"MirrorHeirs$Reader", "test", "()V"⟩ ∈ xTs := xp2 5 rfl
theorem xz_X3_test : Cond.initialized "MirrorHeirs$Reader" ∈ xTs := xt_1 9 rfl rfl
theorem xe_X3_test : Cond.code ⟨"MirrorHeirs$Reader", "test", "()V"⟩ prog_5_method_10_code 3 none ∈ xTs := xt_4 131 rfl rfl
theorem xp_X3_test : (⟨"MirrorHeirs$Reader", "test", "()V"⟩ : MethodName).cls ≠ "java/lang/invoke/MethodHandle" ∧ (⟨"MirrorHeirs$Reader", "test", "()V"⟩ : MethodName).cls ≠ "java/lang/invoke/VarHandle" ∧ (parseMethodDescriptor (⟨"MirrorHeirs$Reader", "test", "()V"⟩ : MethodName).desc).map (fun d => d.parameters.length) = some 0 := by decide +kernel
theorem xs_X3_written : Cond.instanceMethod ⟨"MirrorHeirs$Reader", "written", "(II)I"⟩ ∈ xTs := xt_4 111 rfl rfl
theorem xq_X3_written : Cond.selects "MirrorHeirs$Reader" ⟨"MirrorHeirs$Reader", "written", "(II)I"⟩ ⟨"MirrorHeirs$Reader", "written", "(II)I"⟩ ∈ xTs := xp2 3 rfl
theorem xz_X3_written : Cond.initialized "MirrorHeirs$Reader" ∈ xTs := xt_1 9 rfl rfl
theorem xe_X3_written : Cond.code ⟨"MirrorHeirs$Reader", "written", "(II)I"⟩ prog_5_method_18_code 4 (some (.int)) ∈ xTs := xt_4 112 rfl rfl
theorem xp_X3_written : (⟨"MirrorHeirs$Reader", "written", "(II)I"⟩ : MethodName).cls ≠ "java/lang/invoke/MethodHandle" ∧ (⟨"MirrorHeirs$Reader", "written", "(II)I"⟩ : MethodName).cls ≠ "java/lang/invoke/VarHandle" ∧ (parseMethodDescriptor (⟨"MirrorHeirs$Reader", "written", "(II)I"⟩ : MethodName).desc).map (fun d => d.parameters.length) = some 2 := by decide +kernel
theorem xs_X4_add : Cond.instanceMethod ⟨"MirrorHeirs$Rows", "add", "(III)I"⟩ ∈ xTs := xt_3 95 rfl rfl
theorem xq_X4_add : Cond.selects "MirrorHeirs$Rows" ⟨"MirrorHeirs$Rows", "add", "(III)I"⟩ ⟨"MirrorHeirs$Rows", "add", "(III)I"⟩ ∈ xTs := xt_3 96 rfl rfl
theorem xz_X4_add : Cond.initialized "MirrorHeirs$Rows" ∈ xTs := xt_1 3 rfl rfl
theorem xe_X4_add : Cond.code ⟨"MirrorHeirs$Rows", "add", "(III)I"⟩ prog_6_method_5_code 5 (some (.int)) ∈ xTs := xt_3 97 rfl rfl
theorem xp_X4_add : (⟨"MirrorHeirs$Rows", "add", "(III)I"⟩ : MethodName).cls ≠ "java/lang/invoke/MethodHandle" ∧ (⟨"MirrorHeirs$Rows", "add", "(III)I"⟩ : MethodName).cls ≠ "java/lang/invoke/VarHandle" ∧ (parseMethodDescriptor (⟨"MirrorHeirs$Rows", "add", "(III)I"⟩ : MethodName).desc).map (fun d => d.parameters.length) = some 3 := by decide +kernel
theorem xs_X4_clear : Cond.instanceMethod ⟨"MirrorHeirs$Rows", "clear", "()V"⟩ ∈ xTs := xt_3 72 rfl rfl
theorem xq_X4_clear : Cond.selects "MirrorHeirs$Rows" ⟨"MirrorHeirs$Rows", "clear", "()V"⟩ ⟨"MirrorHeirs$Rows", "clear", "()V"⟩ ∈ xTs := xt_3 73 rfl rfl
theorem xz_X4_clear : Cond.initialized "MirrorHeirs$Rows" ∈ xTs := xt_1 3 rfl rfl
theorem xe_X4_clear : Cond.code ⟨"MirrorHeirs$Rows", "clear", "()V"⟩ prog_6_method_7_code 1 none ∈ xTs := xt_3 74 rfl rfl
theorem xp_X4_clear : (⟨"MirrorHeirs$Rows", "clear", "()V"⟩ : MethodName).cls ≠ "java/lang/invoke/MethodHandle" ∧ (⟨"MirrorHeirs$Rows", "clear", "()V"⟩ : MethodName).cls ≠ "java/lang/invoke/VarHandle" ∧ (parseMethodDescriptor (⟨"MirrorHeirs$Rows", "clear", "()V"⟩ : MethodName).desc).map (fun d => d.parameters.length) = some 0 := by decide +kernel
theorem xs_X4_copy : Cond.instanceMethod ⟨"MirrorHeirs$Rows", "copy", "(LMirrorHeirs$Rows;)V"⟩ ∈ xTs := xt_4 164 rfl rfl
theorem xq_X4_copy : Cond.selects "MirrorHeirs$Rows" ⟨"MirrorHeirs$Rows", "copy", "(LMirrorHeirs$Rows;)V"⟩ ⟨"MirrorHeirs$Rows", "copy", "(LMirrorHeirs$Rows;)V"⟩ ∈ xTs := xt_4 165 rfl rfl
theorem xz_X4_copy : Cond.initialized "MirrorHeirs$Rows" ∈ xTs := xt_1 3 rfl rfl
theorem xe_X4_copy : Cond.code ⟨"MirrorHeirs$Rows", "copy", "(LMirrorHeirs$Rows;)V"⟩ prog_6_method_9_code 4 none ∈ xTs := xt_4 166 rfl rfl
theorem xp_X4_copy : (⟨"MirrorHeirs$Rows", "copy", "(LMirrorHeirs$Rows;)V"⟩ : MethodName).cls ≠ "java/lang/invoke/MethodHandle" ∧ (⟨"MirrorHeirs$Rows", "copy", "(LMirrorHeirs$Rows;)V"⟩ : MethodName).cls ≠ "java/lang/invoke/VarHandle" ∧ (parseMethodDescriptor (⟨"MirrorHeirs$Rows", "copy", "(LMirrorHeirs$Rows;)V"⟩ : MethodName).desc).map (fun d => d.parameters.length) = some 1 := by decide +kernel
theorem xs_X4_drop : Cond.instanceMethod ⟨"MirrorHeirs$Rows", "drop", "(I)V"⟩ ∈ xTs := xt_3 60 rfl rfl
theorem xq_X4_drop : Cond.selects "MirrorHeirs$Rows" ⟨"MirrorHeirs$Rows", "drop", "(I)V"⟩ ⟨"MirrorHeirs$Rows", "drop", "(I)V"⟩ ∈ xTs := xt_3 61 rfl rfl
theorem xz_X4_drop : Cond.initialized "MirrorHeirs$Rows" ∈ xTs := xt_1 3 rfl rfl
theorem xe_X4_drop : Cond.code ⟨"MirrorHeirs$Rows", "drop", "(I)V"⟩ prog_6_method_6_code 3 none ∈ xTs := xt_3 62 rfl rfl
theorem xp_X4_drop : (⟨"MirrorHeirs$Rows", "drop", "(I)V"⟩ : MethodName).cls ≠ "java/lang/invoke/MethodHandle" ∧ (⟨"MirrorHeirs$Rows", "drop", "(I)V"⟩ : MethodName).cls ≠ "java/lang/invoke/VarHandle" ∧ (parseMethodDescriptor (⟨"MirrorHeirs$Rows", "drop", "(I)V"⟩ : MethodName).desc).map (fun d => d.parameters.length) = some 1 := by decide +kernel
theorem xs_X4_find : Cond.instanceMethod ⟨"MirrorHeirs$Rows", "find", "(I)I"⟩ ∈ xTs := xt_3 40 rfl rfl
theorem xq_X4_find : Cond.selects "MirrorHeirs$Rows" ⟨"MirrorHeirs$Rows", "find", "(I)I"⟩ ⟨"MirrorHeirs$Rows", "find", "(I)I"⟩ ∈ xTs := xt_3 41 rfl rfl
theorem xz_X4_find : Cond.initialized "MirrorHeirs$Rows" ∈ xTs := xt_1 3 rfl rfl
theorem xe_X4_find : Cond.code ⟨"MirrorHeirs$Rows", "find", "(I)I"⟩ prog_6_method_8_code 3 (some (.int)) ∈ xTs := xt_3 42 rfl rfl
theorem xp_X4_find : (⟨"MirrorHeirs$Rows", "find", "(I)I"⟩ : MethodName).cls ≠ "java/lang/invoke/MethodHandle" ∧ (⟨"MirrorHeirs$Rows", "find", "(I)I"⟩ : MethodName).cls ≠ "java/lang/invoke/VarHandle" ∧ (parseMethodDescriptor (⟨"MirrorHeirs$Rows", "find", "(I)I"⟩ : MethodName).desc).map (fun d => d.parameters.length) = some 1 := by decide +kernel
theorem xs_X4_get : Cond.instanceMethod ⟨"MirrorHeirs$Rows", "get", "(II)I"⟩ ∈ xTs := xt_3 44 rfl rfl
theorem xq_X4_get : Cond.selects "MirrorHeirs$Rows" ⟨"MirrorHeirs$Rows", "get", "(II)I"⟩ ⟨"MirrorHeirs$Rows", "get", "(II)I"⟩ ∈ xTs := xt_3 45 rfl rfl
theorem xz_X4_get : Cond.initialized "MirrorHeirs$Rows" ∈ xTs := xt_1 3 rfl rfl
theorem xe_X4_get : Cond.code ⟨"MirrorHeirs$Rows", "get", "(II)I"⟩ prog_6_method_3_code 4 (some (.int)) ∈ xTs := xt_3 46 rfl rfl
theorem xp_X4_get : (⟨"MirrorHeirs$Rows", "get", "(II)I"⟩ : MethodName).cls ≠ "java/lang/invoke/MethodHandle" ∧ (⟨"MirrorHeirs$Rows", "get", "(II)I"⟩ : MethodName).cls ≠ "java/lang/invoke/VarHandle" ∧ (parseMethodDescriptor (⟨"MirrorHeirs$Rows", "get", "(II)I"⟩ : MethodName).desc).map (fun d => d.parameters.length) = some 2 := by decide +kernel
theorem xs_X4_has : Cond.instanceMethod ⟨"MirrorHeirs$Rows", "has", "(I)Z"⟩ ∈ xTs := xt_3 64 rfl rfl
theorem xq_X4_has : Cond.selects "MirrorHeirs$Rows" ⟨"MirrorHeirs$Rows", "has", "(I)Z"⟩ ⟨"MirrorHeirs$Rows", "has", "(I)Z"⟩ ∈ xTs := xt_3 65 rfl rfl
theorem xz_X4_has : Cond.initialized "MirrorHeirs$Rows" ∈ xTs := xt_1 3 rfl rfl
theorem xe_X4_has : Cond.code ⟨"MirrorHeirs$Rows", "has", "(I)Z"⟩ prog_6_method_2_code 2 (some (.boolean)) ∈ xTs := xt_3 66 rfl rfl
theorem xp_X4_has : (⟨"MirrorHeirs$Rows", "has", "(I)Z"⟩ : MethodName).cls ≠ "java/lang/invoke/MethodHandle" ∧ (⟨"MirrorHeirs$Rows", "has", "(I)Z"⟩ : MethodName).cls ≠ "java/lang/invoke/VarHandle" ∧ (parseMethodDescriptor (⟨"MirrorHeirs$Rows", "has", "(I)Z"⟩ : MethodName).desc).map (fun d => d.parameters.length) = some 1 := by decide +kernel
theorem xs_X4_init : Cond.instanceMethod ⟨"MirrorHeirs$Rows", "<init>", "(II)V"⟩ ∈ xTs := xt_1 39 rfl rfl
theorem xz_X4_init : Cond.initialized "MirrorHeirs$Rows" ∈ xTs := xt_1 3 rfl rfl
theorem xe_X4_init : Cond.code ⟨"MirrorHeirs$Rows", "<init>", "(II)V"⟩ prog_6_method_1_code 3 none ∈ xTs := xt_1 40 rfl rfl
theorem xp_X4_init : (⟨"MirrorHeirs$Rows", "<init>", "(II)V"⟩ : MethodName).cls ≠ "java/lang/invoke/MethodHandle" ∧ (⟨"MirrorHeirs$Rows", "<init>", "(II)V"⟩ : MethodName).cls ≠ "java/lang/invoke/VarHandle" ∧ (parseMethodDescriptor (⟨"MirrorHeirs$Rows", "<init>", "(II)V"⟩ : MethodName).desc).map (fun d => d.parameters.length) = some 2 := by decide +kernel
theorem xs_X4_set : Cond.instanceMethod ⟨"MirrorHeirs$Rows", "set", "(III)V"⟩ ∈ xTs := xt_3 99 rfl rfl
theorem xq_X4_set : Cond.selects "MirrorHeirs$Rows" ⟨"MirrorHeirs$Rows", "set", "(III)V"⟩ ⟨"MirrorHeirs$Rows", "set", "(III)V"⟩ ∈ xTs := xt_3 100 rfl rfl
theorem xz_X4_set : Cond.initialized "MirrorHeirs$Rows" ∈ xTs := xt_1 3 rfl rfl
theorem xe_X4_set : Cond.code ⟨"MirrorHeirs$Rows", "set", "(III)V"⟩ prog_6_method_4_code 5 none ∈ xTs := xt_3 101 rfl rfl
theorem xp_X4_set : (⟨"MirrorHeirs$Rows", "set", "(III)V"⟩ : MethodName).cls ≠ "java/lang/invoke/MethodHandle" ∧ (⟨"MirrorHeirs$Rows", "set", "(III)V"⟩ : MethodName).cls ≠ "java/lang/invoke/VarHandle" ∧ (parseMethodDescriptor (⟨"MirrorHeirs$Rows", "set", "(III)V"⟩ : MethodName).desc).map (fun d => d.parameters.length) = some 3 := by decide +kernel
theorem xs_X5_argue : Cond.instanceMethod ⟨"MirrorHeirs$Sets", "argue", "()Z"⟩ ∈ xTs := xt_6 140 rfl rfl
theorem xq_X5_argue : Cond.selects "MirrorHeirs$Sets" ⟨"MirrorHeirs$Sets", "argue", "()Z"⟩ ⟨"MirrorHeirs$Sets", "argue", "()Z"⟩ ∈ xTs := xt_6 141 rfl rfl
theorem xz_X5_argue : Cond.initialized "MirrorHeirs$Sets" ∈ xTs := xt_1 11 rfl rfl
theorem xe_X5_argue : Cond.code ⟨"MirrorHeirs$Sets", "argue", "()Z"⟩ prog_7_method_19_code 6 (some (.boolean)) ∈ xTs := xt_6 142 rfl rfl
theorem xp_X5_argue : (⟨"MirrorHeirs$Sets", "argue", "()Z"⟩ : MethodName).cls ≠ "java/lang/invoke/MethodHandle" ∧ (⟨"MirrorHeirs$Sets", "argue", "()Z"⟩ : MethodName).cls ≠ "java/lang/invoke/VarHandle" ∧ (parseMethodDescriptor (⟨"MirrorHeirs$Sets", "argue", "()Z"⟩ : MethodName).desc).map (fun d => d.parameters.length) = some 0 := by decide +kernel
theorem xs_X5_cheapest : Cond.instanceMethod ⟨"MirrorHeirs$Sets", "cheapest", "(III)I"⟩ ∈ xTs := xt_6 67 rfl rfl
theorem xq_X5_cheapest : Cond.selects "MirrorHeirs$Sets" ⟨"MirrorHeirs$Sets", "cheapest", "(III)I"⟩ ⟨"MirrorHeirs$Sets", "cheapest", "(III)I"⟩ ∈ xTs := xt_6 68 rfl rfl
theorem xz_X5_cheapest : Cond.initialized "MirrorHeirs$Sets" ∈ xTs := xt_1 11 rfl rfl
theorem xe_X5_cheapest : Cond.code ⟨"MirrorHeirs$Sets", "cheapest", "(III)I"⟩ prog_7_method_17_code 7 (some (.int)) ∈ xTs := xt_6 69 rfl rfl
theorem xp_X5_cheapest : (⟨"MirrorHeirs$Sets", "cheapest", "(III)I"⟩ : MethodName).cls ≠ "java/lang/invoke/MethodHandle" ∧ (⟨"MirrorHeirs$Sets", "cheapest", "(III)I"⟩ : MethodName).cls ≠ "java/lang/invoke/VarHandle" ∧ (parseMethodDescriptor (⟨"MirrorHeirs$Sets", "cheapest", "(III)I"⟩ : MethodName).desc).map (fun d => d.parameters.length) = some 3 := by decide +kernel
theorem xs_X5_estateIn : Cond.instanceMethod ⟨"MirrorHeirs$Sets", "estateIn", "(II)I"⟩ ∈ xTs := xt_6 123 rfl rfl
theorem xq_X5_estateIn : Cond.selects "MirrorHeirs$Sets" ⟨"MirrorHeirs$Sets", "estateIn", "(II)I"⟩ ⟨"MirrorHeirs$Sets", "estateIn", "(II)I"⟩ ∈ xTs := xp4 1 rfl
theorem xz_X5_estateIn : Cond.initialized "MirrorHeirs$Sets" ∈ xTs := xt_1 11 rfl rfl
theorem xe_X5_estateIn : Cond.code ⟨"MirrorHeirs$Sets", "estateIn", "(II)I"⟩ prog_7_method_8_code 4 (some (.int)) ∈ xTs := xt_6 124 rfl rfl
theorem xp_X5_estateIn : (⟨"MirrorHeirs$Sets", "estateIn", "(II)I"⟩ : MethodName).cls ≠ "java/lang/invoke/MethodHandle" ∧ (⟨"MirrorHeirs$Sets", "estateIn", "(II)I"⟩ : MethodName).cls ≠ "java/lang/invoke/VarHandle" ∧ (parseMethodDescriptor (⟨"MirrorHeirs$Sets", "estateIn", "(II)I"⟩ : MethodName).desc).map (fun d => d.parameters.length) = some 2 := by decide +kernel
theorem xs_X5_estatesIn : Cond.instanceMethod ⟨"MirrorHeirs$Sets", "estatesIn", "(I)V"⟩ ∈ xTs := xt_6 115 rfl rfl
theorem xq_X5_estatesIn : Cond.selects "MirrorHeirs$Sets" ⟨"MirrorHeirs$Sets", "estatesIn", "(I)V"⟩ ⟨"MirrorHeirs$Sets", "estatesIn", "(I)V"⟩ ∈ xTs := xp3 15 rfl
theorem xz_X5_estatesIn : Cond.initialized "MirrorHeirs$Sets" ∈ xTs := xt_1 11 rfl rfl
theorem xe_X5_estatesIn : Cond.code ⟨"MirrorHeirs$Sets", "estatesIn", "(I)V"⟩ prog_7_method_6_code 5 none ∈ xTs := xt_6 116 rfl rfl
theorem xp_X5_estatesIn : (⟨"MirrorHeirs$Sets", "estatesIn", "(I)V"⟩ : MethodName).cls ≠ "java/lang/invoke/MethodHandle" ∧ (⟨"MirrorHeirs$Sets", "estatesIn", "(I)V"⟩ : MethodName).cls ≠ "java/lang/invoke/VarHandle" ∧ (parseMethodDescriptor (⟨"MirrorHeirs$Sets", "estatesIn", "(I)V"⟩ : MethodName).desc).map (fun d => d.parameters.length) = some 1 := by decide +kernel
theorem xs_X5_fewestBits : Cond.instanceMethod ⟨"MirrorHeirs$Sets", "fewestBits", "()I"⟩ ∈ xTs := xt_6 29 rfl rfl
theorem xq_X5_fewestBits : Cond.selects "MirrorHeirs$Sets" ⟨"MirrorHeirs$Sets", "fewestBits", "()I"⟩ ⟨"MirrorHeirs$Sets", "fewestBits", "()I"⟩ ∈ xTs := xt_6 30 rfl rfl
theorem xz_X5_fewestBits : Cond.initialized "MirrorHeirs$Sets" ∈ xTs := xt_1 11 rfl rfl
theorem xe_X5_fewestBits : Cond.code ⟨"MirrorHeirs$Sets", "fewestBits", "()I"⟩ prog_7_method_16_code 2 (some (.int)) ∈ xTs := xt_6 31 rfl rfl
theorem xp_X5_fewestBits : (⟨"MirrorHeirs$Sets", "fewestBits", "()I"⟩ : MethodName).cls ≠ "java/lang/invoke/MethodHandle" ∧ (⟨"MirrorHeirs$Sets", "fewestBits", "()I"⟩ : MethodName).cls ≠ "java/lang/invoke/VarHandle" ∧ (parseMethodDescriptor (⟨"MirrorHeirs$Sets", "fewestBits", "()I"⟩ : MethodName).desc).map (fun d => d.parameters.length) = some 0 := by decide +kernel
theorem xs_X5_fitCount : Cond.instanceMethod ⟨"MirrorHeirs$Sets", "fitCount", "()I"⟩ ∈ xTs := xt_6 25 rfl rfl
theorem xq_X5_fitCount : Cond.selects "MirrorHeirs$Sets" ⟨"MirrorHeirs$Sets", "fitCount", "()I"⟩ ⟨"MirrorHeirs$Sets", "fitCount", "()I"⟩ ∈ xTs := xt_6 26 rfl rfl
theorem xz_X5_fitCount : Cond.initialized "MirrorHeirs$Sets" ∈ xTs := xt_1 11 rfl rfl
theorem xe_X5_fitCount : Cond.code ⟨"MirrorHeirs$Sets", "fitCount", "()I"⟩ prog_7_method_14_code 3 (some (.int)) ∈ xTs := xt_6 27 rfl rfl
theorem xp_X5_fitCount : (⟨"MirrorHeirs$Sets", "fitCount", "()I"⟩ : MethodName).cls ≠ "java/lang/invoke/MethodHandle" ∧ (⟨"MirrorHeirs$Sets", "fitCount", "()I"⟩ : MethodName).cls ≠ "java/lang/invoke/VarHandle" ∧ (parseMethodDescriptor (⟨"MirrorHeirs$Sets", "fitCount", "()I"⟩ : MethodName).desc).map (fun d => d.parameters.length) = some 0 := by decide +kernel
theorem xs_X5_fitPeace : Cond.instanceMethod ⟨"MirrorHeirs$Sets", "fitPeace", "()V"⟩ ∈ xTs := xt_6 128 rfl rfl
theorem xq_X5_fitPeace : Cond.selects "MirrorHeirs$Sets" ⟨"MirrorHeirs$Sets", "fitPeace", "()V"⟩ ⟨"MirrorHeirs$Sets", "fitPeace", "()V"⟩ ∈ xTs := xt_6 129 rfl rfl
theorem xz_X5_fitPeace : Cond.initialized "MirrorHeirs$Sets" ∈ xTs := xt_1 11 rfl rfl
theorem xe_X5_fitPeace : Cond.code ⟨"MirrorHeirs$Sets", "fitPeace", "()V"⟩ prog_7_method_12_code 3 none ∈ xTs := xt_6 130 rfl rfl
theorem xp_X5_fitPeace : (⟨"MirrorHeirs$Sets", "fitPeace", "()V"⟩ : MethodName).cls ≠ "java/lang/invoke/MethodHandle" ∧ (⟨"MirrorHeirs$Sets", "fitPeace", "()V"⟩ : MethodName).cls ≠ "java/lang/invoke/VarHandle" ∧ (parseMethodDescriptor (⟨"MirrorHeirs$Sets", "fitPeace", "()V"⟩ : MethodName).desc).map (fun d => d.parameters.length) = some 0 := by decide +kernel
theorem xs_X5_fitTellings : Cond.instanceMethod ⟨"MirrorHeirs$Sets", "fitTellings", "()V"⟩ ∈ xTs := xt_5 238 rfl rfl
theorem xq_X5_fitTellings : Cond.selects "MirrorHeirs$Sets" ⟨"MirrorHeirs$Sets", "fitTellings", "()V"⟩ ⟨"MirrorHeirs$Sets", "fitTellings", "()V"⟩ ∈ xTs := xt_5 239 rfl rfl
theorem xz_X5_fitTellings : Cond.initialized "MirrorHeirs$Sets" ∈ xTs := xt_1 11 rfl rfl
theorem xe_X5_fitTellings : Cond.code ⟨"MirrorHeirs$Sets", "fitTellings", "()V"⟩ prog_7_method_11_code 4 none ∈ xTs := xt_6 0 rfl rfl
theorem xp_X5_fitTellings : (⟨"MirrorHeirs$Sets", "fitTellings", "()V"⟩ : MethodName).cls ≠ "java/lang/invoke/MethodHandle" ∧ (⟨"MirrorHeirs$Sets", "fitTellings", "()V"⟩ : MethodName).cls ≠ "java/lang/invoke/VarHandle" ∧ (parseMethodDescriptor (⟨"MirrorHeirs$Sets", "fitTellings", "()V"⟩ : MethodName).desc).map (fun d => d.parameters.length) = some 0 := by decide +kernel
theorem xs_X5_glimpseIn : Cond.instanceMethod ⟨"MirrorHeirs$Sets", "glimpseIn", "(II)V"⟩ ∈ xTs := xt_6 110 rfl rfl
theorem xq_X5_glimpseIn : Cond.selects "MirrorHeirs$Sets" ⟨"MirrorHeirs$Sets", "glimpseIn", "(II)V"⟩ ⟨"MirrorHeirs$Sets", "glimpseIn", "(II)V"⟩ ∈ xTs := xp3 14 rfl
theorem xz_X5_glimpseIn : Cond.initialized "MirrorHeirs$Sets" ∈ xTs := xt_1 11 rfl rfl
theorem xe_X5_glimpseIn : Cond.code ⟨"MirrorHeirs$Sets", "glimpseIn", "(II)V"⟩ prog_7_method_4_code 6 none ∈ xTs := xt_6 111 rfl rfl
theorem xp_X5_glimpseIn : (⟨"MirrorHeirs$Sets", "glimpseIn", "(II)V"⟩ : MethodName).cls ≠ "java/lang/invoke/MethodHandle" ∧ (⟨"MirrorHeirs$Sets", "glimpseIn", "(II)V"⟩ : MethodName).cls ≠ "java/lang/invoke/VarHandle" ∧ (parseMethodDescriptor (⟨"MirrorHeirs$Sets", "glimpseIn", "(II)V"⟩ : MethodName).desc).map (fun d => d.parameters.length) = some 2 := by decide +kernel
theorem xs_X5_init : Cond.instanceMethod ⟨"MirrorHeirs$Sets", "<init>", "(LMirrorHeirs$Hall;LMirrorHeirs$Sight;LMirrorHeirs$Shares;)V"⟩ ∈ xTs := xt_2 72 rfl rfl
theorem xz_X5_init : Cond.initialized "MirrorHeirs$Sets" ∈ xTs := xt_1 11 rfl rfl
theorem xe_X5_init : Cond.code ⟨"MirrorHeirs$Sets", "<init>", "(LMirrorHeirs$Hall;LMirrorHeirs$Sight;LMirrorHeirs$Shares;)V"⟩ prog_7_method_1_code 4 none ∈ xTs := xt_2 73 rfl rfl
theorem xp_X5_init : (⟨"MirrorHeirs$Sets", "<init>", "(LMirrorHeirs$Hall;LMirrorHeirs$Sight;LMirrorHeirs$Shares;)V"⟩ : MethodName).cls ≠ "java/lang/invoke/MethodHandle" ∧ (⟨"MirrorHeirs$Sets", "<init>", "(LMirrorHeirs$Hall;LMirrorHeirs$Sight;LMirrorHeirs$Shares;)V"⟩ : MethodName).cls ≠ "java/lang/invoke/VarHandle" ∧ (parseMethodDescriptor (⟨"MirrorHeirs$Sets", "<init>", "(LMirrorHeirs$Hall;LMirrorHeirs$Sight;LMirrorHeirs$Shares;)V"⟩ : MethodName).desc).map (fun d => d.parameters.length) = some 3 := by decide +kernel
theorem xs_X5_lightIn : Cond.instanceMethod ⟨"MirrorHeirs$Sets", "lightIn", "(I)V"⟩ ∈ xTs := xt_6 105 rfl rfl
theorem xq_X5_lightIn : Cond.selects "MirrorHeirs$Sets" ⟨"MirrorHeirs$Sets", "lightIn", "(I)V"⟩ ⟨"MirrorHeirs$Sets", "lightIn", "(I)V"⟩ ∈ xTs := xp3 13 rfl
theorem xz_X5_lightIn : Cond.initialized "MirrorHeirs$Sets" ∈ xTs := xt_1 11 rfl rfl
theorem xe_X5_lightIn : Cond.code ⟨"MirrorHeirs$Sets", "lightIn", "(I)V"⟩ prog_7_method_5_code 2 none ∈ xTs := xt_6 106 rfl rfl
theorem xp_X5_lightIn : (⟨"MirrorHeirs$Sets", "lightIn", "(I)V"⟩ : MethodName).cls ≠ "java/lang/invoke/MethodHandle" ∧ (⟨"MirrorHeirs$Sets", "lightIn", "(I)V"⟩ : MethodName).cls ≠ "java/lang/invoke/VarHandle" ∧ (parseMethodDescriptor (⟨"MirrorHeirs$Sets", "lightIn", "(I)V"⟩ : MethodName).desc).map (fun d => d.parameters.length) = some 1 := by decide +kernel
theorem xs_X5_lowestOfFewest : Cond.instanceMethod ⟨"MirrorHeirs$Sets", "lowestOfFewest", "()I"⟩ ∈ xTs := xt_6 33 rfl rfl
theorem xq_X5_lowestOfFewest : Cond.selects "MirrorHeirs$Sets" ⟨"MirrorHeirs$Sets", "lowestOfFewest", "()I"⟩ ⟨"MirrorHeirs$Sets", "lowestOfFewest", "()I"⟩ ∈ xTs := xt_6 34 rfl rfl
theorem xz_X5_lowestOfFewest : Cond.initialized "MirrorHeirs$Sets" ∈ xTs := xt_1 11 rfl rfl
theorem xe_X5_lowestOfFewest : Cond.code ⟨"MirrorHeirs$Sets", "lowestOfFewest", "()I"⟩ prog_7_method_15_code 3 (some (.int)) ∈ xTs := xt_6 35 rfl rfl
theorem xp_X5_lowestOfFewest : (⟨"MirrorHeirs$Sets", "lowestOfFewest", "()I"⟩ : MethodName).cls ≠ "java/lang/invoke/MethodHandle" ∧ (⟨"MirrorHeirs$Sets", "lowestOfFewest", "()I"⟩ : MethodName).cls ≠ "java/lang/invoke/VarHandle" ∧ (parseMethodDescriptor (⟨"MirrorHeirs$Sets", "lowestOfFewest", "()I"⟩ : MethodName).desc).map (fun d => d.parameters.length) = some 0 := by decide +kernel
theorem xs_X5_prepare : Cond.instanceMethod ⟨"MirrorHeirs$Sets", "prepare", "()V"⟩ ∈ xTs := xt_6 99 rfl rfl
theorem xq_X5_prepare : Cond.selects "MirrorHeirs$Sets" ⟨"MirrorHeirs$Sets", "prepare", "()V"⟩ ⟨"MirrorHeirs$Sets", "prepare", "()V"⟩ ∈ xTs := xt_6 100 rfl rfl
theorem xz_X5_prepare : Cond.initialized "MirrorHeirs$Sets" ∈ xTs := xt_1 11 rfl rfl
theorem xe_X5_prepare : Cond.code ⟨"MirrorHeirs$Sets", "prepare", "()V"⟩ prog_7_method_3_code 5 none ∈ xTs := xt_6 101 rfl rfl
theorem xp_X5_prepare : (⟨"MirrorHeirs$Sets", "prepare", "()V"⟩ : MethodName).cls ≠ "java/lang/invoke/MethodHandle" ∧ (⟨"MirrorHeirs$Sets", "prepare", "()V"⟩ : MethodName).cls ≠ "java/lang/invoke/VarHandle" ∧ (parseMethodDescriptor (⟨"MirrorHeirs$Sets", "prepare", "()V"⟩ : MethodName).desc).map (fun d => d.parameters.length) = some 0 := by decide +kernel
theorem xs_X5_priceOf : Cond.instanceMethod ⟨"MirrorHeirs$Sets", "priceOf", "(I)I"⟩ ∈ xTs := xt_6 71 rfl rfl
theorem xq_X5_priceOf : Cond.selects "MirrorHeirs$Sets" ⟨"MirrorHeirs$Sets", "priceOf", "(I)I"⟩ ⟨"MirrorHeirs$Sets", "priceOf", "(I)I"⟩ ∈ xTs := xt_6 72 rfl rfl
theorem xz_X5_priceOf : Cond.initialized "MirrorHeirs$Sets" ∈ xTs := xt_1 11 rfl rfl
theorem xe_X5_priceOf : Cond.code ⟨"MirrorHeirs$Sets", "priceOf", "(I)I"⟩ prog_7_method_18_code 4 (some (.int)) ∈ xTs := xt_6 73 rfl rfl
theorem xp_X5_priceOf : (⟨"MirrorHeirs$Sets", "priceOf", "(I)I"⟩ : MethodName).cls ≠ "java/lang/invoke/MethodHandle" ∧ (⟨"MirrorHeirs$Sets", "priceOf", "(I)I"⟩ : MethodName).cls ≠ "java/lang/invoke/VarHandle" ∧ (parseMethodDescriptor (⟨"MirrorHeirs$Sets", "priceOf", "(I)I"⟩ : MethodName).desc).map (fun d => d.parameters.length) = some 1 := by decide +kernel
theorem xs_X5_sameAs : Cond.instanceMethod ⟨"MirrorHeirs$Sets", "sameAs", "(I)I"⟩ ∈ xTs := xt_6 119 rfl rfl
theorem xq_X5_sameAs : Cond.selects "MirrorHeirs$Sets" ⟨"MirrorHeirs$Sets", "sameAs", "(I)I"⟩ ⟨"MirrorHeirs$Sets", "sameAs", "(I)I"⟩ ∈ xTs := xp4 0 rfl
theorem xz_X5_sameAs : Cond.initialized "MirrorHeirs$Sets" ∈ xTs := xt_1 11 rfl rfl
theorem xe_X5_sameAs : Cond.code ⟨"MirrorHeirs$Sets", "sameAs", "(I)I"⟩ prog_7_method_7_code 8 (some (.int)) ∈ xTs := xt_6 120 rfl rfl
theorem xp_X5_sameAs : (⟨"MirrorHeirs$Sets", "sameAs", "(I)I"⟩ : MethodName).cls ≠ "java/lang/invoke/MethodHandle" ∧ (⟨"MirrorHeirs$Sets", "sameAs", "(I)I"⟩ : MethodName).cls ≠ "java/lang/invoke/VarHandle" ∧ (parseMethodDescriptor (⟨"MirrorHeirs$Sets", "sameAs", "(I)I"⟩ : MethodName).desc).map (fun d => d.parameters.length) = some 1 := by decide +kernel
theorem xs_X5_setCount : Cond.instanceMethod ⟨"MirrorHeirs$Sets", "setCount", "()I"⟩ ∈ xTs := xt_6 9 rfl rfl
theorem xq_X5_setCount : Cond.selects "MirrorHeirs$Sets" ⟨"MirrorHeirs$Sets", "setCount", "()I"⟩ ⟨"MirrorHeirs$Sets", "setCount", "()I"⟩ ∈ xTs := xp3 11 rfl
theorem xz_X5_setCount : Cond.initialized "MirrorHeirs$Sets" ∈ xTs := xt_1 11 rfl rfl
theorem xe_X5_setCount : Cond.code ⟨"MirrorHeirs$Sets", "setCount", "()I"⟩ prog_7_method_2_code 1 (some (.int)) ∈ xTs := xt_6 10 rfl rfl
theorem xp_X5_setCount : (⟨"MirrorHeirs$Sets", "setCount", "()I"⟩ : MethodName).cls ≠ "java/lang/invoke/MethodHandle" ∧ (⟨"MirrorHeirs$Sets", "setCount", "()I"⟩ : MethodName).cls ≠ "java/lang/invoke/VarHandle" ∧ (parseMethodDescriptor (⟨"MirrorHeirs$Sets", "setCount", "()I"⟩ : MethodName).desc).map (fun d => d.parameters.length) = some 0 := by decide +kernel
theorem xs_X5_trace : Cond.instanceMethod ⟨"MirrorHeirs$Sets", "trace", "(II)V"⟩ ∈ xTs := xt_6 5 rfl rfl
theorem xq_X5_trace : Cond.selects "MirrorHeirs$Sets" ⟨"MirrorHeirs$Sets", "trace", "(II)V"⟩ ⟨"MirrorHeirs$Sets", "trace", "(II)V"⟩ ∈ xTs := xp3 10 rfl
theorem xz_X5_trace : Cond.initialized "MirrorHeirs$Sets" ∈ xTs := xt_1 11 rfl rfl
theorem xe_X5_trace : Cond.code ⟨"MirrorHeirs$Sets", "trace", "(II)V"⟩ prog_7_method_9_code 7 none ∈ xTs := xt_6 6 rfl rfl
theorem xp_X5_trace : (⟨"MirrorHeirs$Sets", "trace", "(II)V"⟩ : MethodName).cls ≠ "java/lang/invoke/MethodHandle" ∧ (⟨"MirrorHeirs$Sets", "trace", "(II)V"⟩ : MethodName).cls ≠ "java/lang/invoke/VarHandle" ∧ (parseMethodDescriptor (⟨"MirrorHeirs$Sets", "trace", "(II)V"⟩ : MethodName).desc).map (fun d => d.parameters.length) = some 2 := by decide +kernel
theorem xs_X5_traced : Cond.instanceMethod ⟨"MirrorHeirs$Sets", "traced", "(I)I"⟩ ∈ xTs := xt_6 22 rfl rfl
theorem xq_X5_traced : Cond.selects "MirrorHeirs$Sets" ⟨"MirrorHeirs$Sets", "traced", "(I)I"⟩ ⟨"MirrorHeirs$Sets", "traced", "(I)I"⟩ ∈ xTs := xp3 12 rfl
theorem xz_X5_traced : Cond.initialized "MirrorHeirs$Sets" ∈ xTs := xt_1 11 rfl rfl
theorem xe_X5_traced : Cond.code ⟨"MirrorHeirs$Sets", "traced", "(I)I"⟩ prog_7_method_10_code 2 (some (.int)) ∈ xTs := xt_6 23 rfl rfl
theorem xp_X5_traced : (⟨"MirrorHeirs$Sets", "traced", "(I)I"⟩ : MethodName).cls ≠ "java/lang/invoke/MethodHandle" ∧ (⟨"MirrorHeirs$Sets", "traced", "(I)I"⟩ : MethodName).cls ≠ "java/lang/invoke/VarHandle" ∧ (parseMethodDescriptor (⟨"MirrorHeirs$Sets", "traced", "(I)I"⟩ : MethodName).desc).map (fun d => d.parameters.length) = some 1 := by decide +kernel
theorem xs_X5_wish : Cond.instanceMethod ⟨"MirrorHeirs$Sets", "wish", "(II)I"⟩ ∈ xTs := xt_6 133 rfl rfl
theorem xq_X5_wish : Cond.selects "MirrorHeirs$Sets" ⟨"MirrorHeirs$Sets", "wish", "(II)I"⟩ ⟨"MirrorHeirs$Sets", "wish", "(II)I"⟩ ∈ xTs := xp4 2 rfl
theorem xz_X5_wish : Cond.initialized "MirrorHeirs$Sets" ∈ xTs := xt_1 11 rfl rfl
theorem xe_X5_wish : Cond.code ⟨"MirrorHeirs$Sets", "wish", "(II)I"⟩ prog_7_method_13_code 6 (some (.int)) ∈ xTs := xt_6 134 rfl rfl
theorem xp_X5_wish : (⟨"MirrorHeirs$Sets", "wish", "(II)I"⟩ : MethodName).cls ≠ "java/lang/invoke/MethodHandle" ∧ (⟨"MirrorHeirs$Sets", "wish", "(II)I"⟩ : MethodName).cls ≠ "java/lang/invoke/VarHandle" ∧ (parseMethodDescriptor (⟨"MirrorHeirs$Sets", "wish", "(II)I"⟩ : MethodName).desc).map (fun d => d.parameters.length) = some 2 := by decide +kernel
theorem xs_X6_asked : Cond.instanceMethod ⟨"MirrorHeirs$Shares", "asked", "(II)I"⟩ ∈ xTs := xt_5 61 rfl rfl
theorem xq_X6_asked : Cond.selects "MirrorHeirs$Shares" ⟨"MirrorHeirs$Shares", "asked", "(II)I"⟩ ⟨"MirrorHeirs$Shares", "asked", "(II)I"⟩ ∈ xTs := xp3 1 rfl
theorem xz_X6_asked : Cond.initialized "MirrorHeirs$Shares" ∈ xTs := xt_1 8 rfl rfl
theorem xe_X6_asked : Cond.code ⟨"MirrorHeirs$Shares", "asked", "(II)I"⟩ prog_8_method_10_code 10 (some (.int)) ∈ xTs := xt_5 62 rfl rfl
theorem xp_X6_asked : (⟨"MirrorHeirs$Shares", "asked", "(II)I"⟩ : MethodName).cls ≠ "java/lang/invoke/MethodHandle" ∧ (⟨"MirrorHeirs$Shares", "asked", "(II)I"⟩ : MethodName).cls ≠ "java/lang/invoke/VarHandle" ∧ (parseMethodDescriptor (⟨"MirrorHeirs$Shares", "asked", "(II)I"⟩ : MethodName).desc).map (fun d => d.parameters.length) = some 2 := by decide +kernel
theorem xs_X6_claimants : Cond.instanceMethod ⟨"MirrorHeirs$Shares", "claimants", "(I)I"⟩ ∈ xTs := xt_5 164 rfl rfl
theorem xq_X6_claimants : Cond.selects "MirrorHeirs$Shares" ⟨"MirrorHeirs$Shares", "claimants", "(I)I"⟩ ⟨"MirrorHeirs$Shares", "claimants", "(I)I"⟩ ∈ xTs := xt_5 165 rfl rfl
theorem xz_X6_claimants : Cond.initialized "MirrorHeirs$Shares" ∈ xTs := xt_1 8 rfl rfl
theorem xe_X6_claimants : Cond.code ⟨"MirrorHeirs$Shares", "claimants", "(I)I"⟩ prog_8_method_14_code 4 (some (.int)) ∈ xTs := xt_5 166 rfl rfl
theorem xp_X6_claimants : (⟨"MirrorHeirs$Shares", "claimants", "(I)I"⟩ : MethodName).cls ≠ "java/lang/invoke/MethodHandle" ∧ (⟨"MirrorHeirs$Shares", "claimants", "(I)I"⟩ : MethodName).cls ≠ "java/lang/invoke/VarHandle" ∧ (parseMethodDescriptor (⟨"MirrorHeirs$Shares", "claimants", "(I)I"⟩ : MethodName).desc).map (fun d => d.parameters.length) = some 1 := by decide +kernel
theorem xs_X6_claimed : Cond.instanceMethod ⟨"MirrorHeirs$Shares", "claimed", "(II)I"⟩ ∈ xTs := xt_5 79 rfl rfl
theorem xq_X6_claimed : Cond.selects "MirrorHeirs$Shares" ⟨"MirrorHeirs$Shares", "claimed", "(II)I"⟩ ⟨"MirrorHeirs$Shares", "claimed", "(II)I"⟩ ∈ xTs := xt_5 80 rfl rfl
theorem xz_X6_claimed : Cond.initialized "MirrorHeirs$Shares" ∈ xTs := xt_1 8 rfl rfl
theorem xe_X6_claimed : Cond.code ⟨"MirrorHeirs$Shares", "claimed", "(II)I"⟩ prog_8_method_12_code 4 (some (.int)) ∈ xTs := xt_5 81 rfl rfl
theorem xp_X6_claimed : (⟨"MirrorHeirs$Shares", "claimed", "(II)I"⟩ : MethodName).cls ≠ "java/lang/invoke/MethodHandle" ∧ (⟨"MirrorHeirs$Shares", "claimed", "(II)I"⟩ : MethodName).cls ≠ "java/lang/invoke/VarHandle" ∧ (parseMethodDescriptor (⟨"MirrorHeirs$Shares", "claimed", "(II)I"⟩ : MethodName).desc).map (fun d => d.parameters.length) = some 2 := by decide +kernel
theorem xs_X6_divide : Cond.instanceMethod ⟨"MirrorHeirs$Shares", "divide", "()V"⟩ ∈ xTs := xt_5 46 rfl rfl
theorem xq_X6_divide : Cond.selects "MirrorHeirs$Shares" ⟨"MirrorHeirs$Shares", "divide", "()V"⟩ ⟨"MirrorHeirs$Shares", "divide", "()V"⟩ ∈ xTs := xt_5 47 rfl rfl
theorem xz_X6_divide : Cond.initialized "MirrorHeirs$Shares" ∈ xTs := xt_1 8 rfl rfl
theorem xe_X6_divide : Cond.code ⟨"MirrorHeirs$Shares", "divide", "()V"⟩ prog_8_method_9_code 4 none ∈ xTs := xt_5 48 rfl rfl
theorem xp_X6_divide : (⟨"MirrorHeirs$Shares", "divide", "()V"⟩ : MethodName).cls ≠ "java/lang/invoke/MethodHandle" ∧ (⟨"MirrorHeirs$Shares", "divide", "()V"⟩ : MethodName).cls ≠ "java/lang/invoke/VarHandle" ∧ (parseMethodDescriptor (⟨"MirrorHeirs$Shares", "divide", "()V"⟩ : MethodName).desc).map (fun d => d.parameters.length) = some 0 := by decide +kernel
theorem xs_X6_estateOf : Cond.instanceMethod ⟨"MirrorHeirs$Shares", "estateOf", "(I)I"⟩ ∈ xTs := xt_5 87 rfl rfl
theorem xq_X6_estateOf : Cond.selects "MirrorHeirs$Shares" ⟨"MirrorHeirs$Shares", "estateOf", "(I)I"⟩ ⟨"MirrorHeirs$Shares", "estateOf", "(I)I"⟩ ∈ xTs := xt_5 88 rfl rfl
theorem xz_X6_estateOf : Cond.initialized "MirrorHeirs$Shares" ∈ xTs := xt_1 8 rfl rfl
theorem xe_X6_estateOf : Cond.code ⟨"MirrorHeirs$Shares", "estateOf", "(I)I"⟩ prog_8_method_15_code 2 (some (.int)) ∈ xTs := xt_5 89 rfl rfl
theorem xp_X6_estateOf : (⟨"MirrorHeirs$Shares", "estateOf", "(I)I"⟩ : MethodName).cls ≠ "java/lang/invoke/MethodHandle" ∧ (⟨"MirrorHeirs$Shares", "estateOf", "(I)I"⟩ : MethodName).cls ≠ "java/lang/invoke/VarHandle" ∧ (parseMethodDescriptor (⟨"MirrorHeirs$Shares", "estateOf", "(I)I"⟩ : MethodName).desc).map (fun d => d.parameters.length) = some 1 := by decide +kernel
theorem xs_X6_inPair : Cond.instanceMethod ⟨"MirrorHeirs$Shares", "inPair", "(I)Z"⟩ ∈ xTs := xt_5 52 rfl rfl
theorem xq_X6_inPair : Cond.selects "MirrorHeirs$Shares" ⟨"MirrorHeirs$Shares", "inPair", "(I)Z"⟩ ⟨"MirrorHeirs$Shares", "inPair", "(I)Z"⟩ ∈ xTs := xp3 0 rfl
theorem xz_X6_inPair : Cond.initialized "MirrorHeirs$Shares" ∈ xTs := xt_1 8 rfl rfl
theorem xe_X6_inPair : Cond.code ⟨"MirrorHeirs$Shares", "inPair", "(I)Z"⟩ prog_8_method_8_code 3 (some (.boolean)) ∈ xTs := xt_5 53 rfl rfl
theorem xp_X6_inPair : (⟨"MirrorHeirs$Shares", "inPair", "(I)Z"⟩ : MethodName).cls ≠ "java/lang/invoke/MethodHandle" ∧ (⟨"MirrorHeirs$Shares", "inPair", "(I)Z"⟩ : MethodName).cls ≠ "java/lang/invoke/VarHandle" ∧ (parseMethodDescriptor (⟨"MirrorHeirs$Shares", "inPair", "(I)Z"⟩ : MethodName).desc).map (fun d => d.parameters.length) = some 1 := by decide +kernel
theorem xs_X6_init : Cond.instanceMethod ⟨"MirrorHeirs$Shares", "<init>", "(LMirrorHeirs$Hall;LMirrorHeirs$Sight;)V"⟩ ∈ xTs := xt_1 190 rfl rfl
theorem xz_X6_init : Cond.initialized "MirrorHeirs$Shares" ∈ xTs := xt_1 8 rfl rfl
theorem xe_X6_init : Cond.code ⟨"MirrorHeirs$Shares", "<init>", "(LMirrorHeirs$Hall;LMirrorHeirs$Sight;)V"⟩ prog_8_method_1_code 3 none ∈ xTs := xt_1 191 rfl rfl
theorem xp_X6_init : (⟨"MirrorHeirs$Shares", "<init>", "(LMirrorHeirs$Hall;LMirrorHeirs$Sight;)V"⟩ : MethodName).cls ≠ "java/lang/invoke/MethodHandle" ∧ (⟨"MirrorHeirs$Shares", "<init>", "(LMirrorHeirs$Hall;LMirrorHeirs$Sight;)V"⟩ : MethodName).cls ≠ "java/lang/invoke/VarHandle" ∧ (parseMethodDescriptor (⟨"MirrorHeirs$Shares", "<init>", "(LMirrorHeirs$Hall;LMirrorHeirs$Sight;)V"⟩ : MethodName).desc).map (fun d => d.parameters.length) = some 2 := by decide +kernel
theorem xs_X6_kindle : Cond.instanceMethod ⟨"MirrorHeirs$Shares", "kindle", "(LMirrorHeirs$Rows;)V"⟩ ∈ xTs := xt_4 210 rfl rfl
theorem xq_X6_kindle : Cond.selects "MirrorHeirs$Shares" ⟨"MirrorHeirs$Shares", "kindle", "(LMirrorHeirs$Rows;)V"⟩ ⟨"MirrorHeirs$Shares", "kindle", "(LMirrorHeirs$Rows;)V"⟩ ∈ xTs := xt_4 211 rfl rfl
theorem xz_X6_kindle : Cond.initialized "MirrorHeirs$Shares" ∈ xTs := xt_1 8 rfl rfl
theorem xe_X6_kindle : Cond.code ⟨"MirrorHeirs$Shares", "kindle", "(LMirrorHeirs$Rows;)V"⟩ prog_8_method_2_code 3 none ∈ xTs := xt_4 212 rfl rfl
theorem xp_X6_kindle : (⟨"MirrorHeirs$Shares", "kindle", "(LMirrorHeirs$Rows;)V"⟩ : MethodName).cls ≠ "java/lang/invoke/MethodHandle" ∧ (⟨"MirrorHeirs$Shares", "kindle", "(LMirrorHeirs$Rows;)V"⟩ : MethodName).cls ≠ "java/lang/invoke/VarHandle" ∧ (parseMethodDescriptor (⟨"MirrorHeirs$Shares", "kindle", "(LMirrorHeirs$Rows;)V"⟩ : MethodName).desc).map (fun d => d.parameters.length) = some 1 := by decide +kernel
theorem xs_X6_rent : Cond.instanceMethod ⟨"MirrorHeirs$Shares", "rent", "()I"⟩ ∈ xTs := xt_5 83 rfl rfl
theorem xq_X6_rent : Cond.selects "MirrorHeirs$Shares" ⟨"MirrorHeirs$Shares", "rent", "()I"⟩ ⟨"MirrorHeirs$Shares", "rent", "()I"⟩ ∈ xTs := xt_5 84 rfl rfl
theorem xz_X6_rent : Cond.initialized "MirrorHeirs$Shares" ∈ xTs := xt_1 8 rfl rfl
theorem xe_X6_rent : Cond.code ⟨"MirrorHeirs$Shares", "rent", "()I"⟩ prog_8_method_3_code 3 (some (.int)) ∈ xTs := xt_5 85 rfl rfl
theorem xp_X6_rent : (⟨"MirrorHeirs$Shares", "rent", "()I"⟩ : MethodName).cls ≠ "java/lang/invoke/MethodHandle" ∧ (⟨"MirrorHeirs$Shares", "rent", "()I"⟩ : MethodName).cls ≠ "java/lang/invoke/VarHandle" ∧ (parseMethodDescriptor (⟨"MirrorHeirs$Shares", "rent", "()I"⟩ : MethodName).desc).map (fun d => d.parameters.length) = some 0 := by decide +kernel
theorem xs_X6_seenBy : Cond.instanceMethod ⟨"MirrorHeirs$Shares", "seenBy", "(II)I"⟩ ∈ xTs := xt_5 55 rfl rfl
theorem xq_X6_seenBy : Cond.selects "MirrorHeirs$Shares" ⟨"MirrorHeirs$Shares", "seenBy", "(II)I"⟩ ⟨"MirrorHeirs$Shares", "seenBy", "(II)I"⟩ ∈ xTs := xt_5 56 rfl rfl
theorem xz_X6_seenBy : Cond.initialized "MirrorHeirs$Shares" ∈ xTs := xt_1 8 rfl rfl
theorem xe_X6_seenBy : Cond.code ⟨"MirrorHeirs$Shares", "seenBy", "(II)I"⟩ prog_8_method_7_code 3 (some (.int)) ∈ xTs := xt_5 57 rfl rfl
theorem xp_X6_seenBy : (⟨"MirrorHeirs$Shares", "seenBy", "(II)I"⟩ : MethodName).cls ≠ "java/lang/invoke/MethodHandle" ∧ (⟨"MirrorHeirs$Shares", "seenBy", "(II)I"⟩ : MethodName).cls ≠ "java/lang/invoke/VarHandle" ∧ (parseMethodDescriptor (⟨"MirrorHeirs$Shares", "seenBy", "(II)I"⟩ : MethodName).desc).map (fun d => d.parameters.length) = some 2 := by decide +kernel
theorem xs_X6_total : Cond.instanceMethod ⟨"MirrorHeirs$Shares", "total", "(I)I"⟩ ∈ xTs := xt_5 75 rfl rfl
theorem xq_X6_total : Cond.selects "MirrorHeirs$Shares" ⟨"MirrorHeirs$Shares", "total", "(I)I"⟩ ⟨"MirrorHeirs$Shares", "total", "(I)I"⟩ ∈ xTs := xt_5 76 rfl rfl
theorem xz_X6_total : Cond.initialized "MirrorHeirs$Shares" ∈ xTs := xt_1 8 rfl rfl
theorem xe_X6_total : Cond.code ⟨"MirrorHeirs$Shares", "total", "(I)I"⟩ prog_8_method_13_code 2 (some (.int)) ∈ xTs := xt_5 77 rfl rfl
theorem xp_X6_total : (⟨"MirrorHeirs$Shares", "total", "(I)I"⟩ : MethodName).cls ≠ "java/lang/invoke/MethodHandle" ∧ (⟨"MirrorHeirs$Shares", "total", "(I)I"⟩ : MethodName).cls ≠ "java/lang/invoke/VarHandle" ∧ (parseMethodDescriptor (⟨"MirrorHeirs$Shares", "total", "(I)I"⟩ : MethodName).desc).map (fun d => d.parameters.length) = some 1 := by decide +kernel
theorem xs_X7_along : Cond.instanceMethod ⟨"MirrorHeirs$Sight", "along", "(III)I"⟩ ∈ xTs := xt_5 119 rfl rfl
theorem xq_X7_along : Cond.selects "MirrorHeirs$Sight" ⟨"MirrorHeirs$Sight", "along", "(III)I"⟩ ⟨"MirrorHeirs$Sight", "along", "(III)I"⟩ ∈ xTs := xt_5 120 rfl rfl
theorem xz_X7_along : Cond.initialized "MirrorHeirs$Sight" ∈ xTs := xt_1 5 rfl rfl
theorem xe_X7_along : Cond.code ⟨"MirrorHeirs$Sight", "along", "(III)I"⟩ prog_9_method_9_code 11 (some (.int)) ∈ xTs := xt_5 121 rfl rfl
theorem xp_X7_along : (⟨"MirrorHeirs$Sight", "along", "(III)I"⟩ : MethodName).cls ≠ "java/lang/invoke/MethodHandle" ∧ (⟨"MirrorHeirs$Sight", "along", "(III)I"⟩ : MethodName).cls ≠ "java/lang/invoke/VarHandle" ∧ (parseMethodDescriptor (⟨"MirrorHeirs$Sight", "along", "(III)I"⟩ : MethodName).desc).map (fun d => d.parameters.length) = some 3 := by decide +kernel
theorem xs_X7_begin : Cond.instanceMethod ⟨"MirrorHeirs$Sight", "begin", "(I)V"⟩ ∈ xTs := xt_4 220 rfl rfl
theorem xq_X7_begin : Cond.selects "MirrorHeirs$Sight" ⟨"MirrorHeirs$Sight", "begin", "(I)V"⟩ ⟨"MirrorHeirs$Sight", "begin", "(I)V"⟩ ∈ xTs := xp2 11 rfl
theorem xz_X7_begin : Cond.initialized "MirrorHeirs$Sight" ∈ xTs := xt_1 5 rfl rfl
theorem xe_X7_begin : Cond.code ⟨"MirrorHeirs$Sight", "begin", "(I)V"⟩ prog_9_method_3_code 3 none ∈ xTs := xt_4 221 rfl rfl
theorem xp_X7_begin : (⟨"MirrorHeirs$Sight", "begin", "(I)V"⟩ : MethodName).cls ≠ "java/lang/invoke/MethodHandle" ∧ (⟨"MirrorHeirs$Sight", "begin", "(I)V"⟩ : MethodName).cls ≠ "java/lang/invoke/VarHandle" ∧ (parseMethodDescriptor (⟨"MirrorHeirs$Sight", "begin", "(I)V"⟩ : MethodName).desc).map (fun d => d.parameters.length) = some 1 := by decide +kernel
theorem xs_X7_comesTo : Cond.instanceMethod ⟨"MirrorHeirs$Sight", "comesTo", "(III)Z"⟩ ∈ xTs := xt_5 1 rfl rfl
theorem xq_X7_comesTo : Cond.selects "MirrorHeirs$Sight" ⟨"MirrorHeirs$Sight", "comesTo", "(III)Z"⟩ ⟨"MirrorHeirs$Sight", "comesTo", "(III)Z"⟩ ∈ xTs := xp2 14 rfl
theorem xz_X7_comesTo : Cond.initialized "MirrorHeirs$Sight" ∈ xTs := xt_1 5 rfl rfl
theorem xe_X7_comesTo : Cond.code ⟨"MirrorHeirs$Sight", "comesTo", "(III)Z"⟩ prog_9_method_5_code 5 (some (.boolean)) ∈ xTs := xt_5 2 rfl rfl
theorem xp_X7_comesTo : (⟨"MirrorHeirs$Sight", "comesTo", "(III)Z"⟩ : MethodName).cls ≠ "java/lang/invoke/MethodHandle" ∧ (⟨"MirrorHeirs$Sight", "comesTo", "(III)Z"⟩ : MethodName).cls ≠ "java/lang/invoke/VarHandle" ∧ (parseMethodDescriptor (⟨"MirrorHeirs$Sight", "comesTo", "(III)Z"⟩ : MethodName).desc).map (fun d => d.parameters.length) = some 3 := by decide +kernel
theorem xs_X7_fogged : Cond.instanceMethod ⟨"MirrorHeirs$Sight", "fogged", "(II)Z"⟩ ∈ xTs := xt_5 7 rfl rfl
theorem xq_X7_fogged : Cond.selects "MirrorHeirs$Sight" ⟨"MirrorHeirs$Sight", "fogged", "(II)Z"⟩ ⟨"MirrorHeirs$Sight", "fogged", "(II)Z"⟩ ∈ xTs := xp2 15 rfl
theorem xz_X7_fogged : Cond.initialized "MirrorHeirs$Sight" ∈ xTs := xt_1 5 rfl rfl
theorem xe_X7_fogged : Cond.code ⟨"MirrorHeirs$Sight", "fogged", "(II)Z"⟩ prog_9_method_11_code 6 (some (.boolean)) ∈ xTs := xt_5 8 rfl rfl
theorem xp_X7_fogged : (⟨"MirrorHeirs$Sight", "fogged", "(II)Z"⟩ : MethodName).cls ≠ "java/lang/invoke/MethodHandle" ∧ (⟨"MirrorHeirs$Sight", "fogged", "(II)Z"⟩ : MethodName).cls ≠ "java/lang/invoke/VarHandle" ∧ (parseMethodDescriptor (⟨"MirrorHeirs$Sight", "fogged", "(II)Z"⟩ : MethodName).desc).map (fun d => d.parameters.length) = some 2 := by decide +kernel
theorem xs_X7_fromAny : Cond.instanceMethod ⟨"MirrorHeirs$Sight", "fromAny", "(LMirrorHeirs$Rows;I)I"⟩ ∈ xTs := xt_5 187 rfl rfl
theorem xq_X7_fromAny : Cond.selects "MirrorHeirs$Sight" ⟨"MirrorHeirs$Sight", "fromAny", "(LMirrorHeirs$Rows;I)I"⟩ ⟨"MirrorHeirs$Sight", "fromAny", "(LMirrorHeirs$Rows;I)I"⟩ ∈ xTs := xt_5 188 rfl rfl
theorem xz_X7_fromAny : Cond.initialized "MirrorHeirs$Sight" ∈ xTs := xt_1 5 rfl rfl
theorem xe_X7_fromAny : Cond.code ⟨"MirrorHeirs$Sight", "fromAny", "(LMirrorHeirs$Rows;I)I"⟩ prog_9_method_8_code 6 (some (.int)) ∈ xTs := xt_5 189 rfl rfl
theorem xp_X7_fromAny : (⟨"MirrorHeirs$Sight", "fromAny", "(LMirrorHeirs$Rows;I)I"⟩ : MethodName).cls ≠ "java/lang/invoke/MethodHandle" ∧ (⟨"MirrorHeirs$Sight", "fromAny", "(LMirrorHeirs$Rows;I)I"⟩ : MethodName).cls ≠ "java/lang/invoke/VarHandle" ∧ (parseMethodDescriptor (⟨"MirrorHeirs$Sight", "fromAny", "(LMirrorHeirs$Rows;I)I"⟩ : MethodName).desc).map (fun d => d.parameters.length) = some 2 := by decide +kernel
theorem xs_X7_init : Cond.instanceMethod ⟨"MirrorHeirs$Sight", "<init>", "(LMirrorHeirs$Hall;)V"⟩ ∈ xTs := xt_1 129 rfl rfl
theorem xz_X7_init : Cond.initialized "MirrorHeirs$Sight" ∈ xTs := xt_1 5 rfl rfl
theorem xe_X7_init : Cond.code ⟨"MirrorHeirs$Sight", "<init>", "(LMirrorHeirs$Hall;)V"⟩ prog_9_method_1_code 2 none ∈ xTs := xt_1 130 rfl rfl
theorem xp_X7_init : (⟨"MirrorHeirs$Sight", "<init>", "(LMirrorHeirs$Hall;)V"⟩ : MethodName).cls ≠ "java/lang/invoke/MethodHandle" ∧ (⟨"MirrorHeirs$Sight", "<init>", "(LMirrorHeirs$Hall;)V"⟩ : MethodName).cls ≠ "java/lang/invoke/VarHandle" ∧ (parseMethodDescriptor (⟨"MirrorHeirs$Sight", "<init>", "(LMirrorHeirs$Hall;)V"⟩ : MethodName).desc).map (fun d => d.parameters.length) = some 1 := by decide +kernel
theorem xs_X7_look : Cond.instanceMethod ⟨"MirrorHeirs$Sight", "look", "(I)V"⟩ ∈ xTs := xt_4 215 rfl rfl
theorem xq_X7_look : Cond.selects "MirrorHeirs$Sight" ⟨"MirrorHeirs$Sight", "look", "(I)V"⟩ ⟨"MirrorHeirs$Sight", "look", "(I)V"⟩ ∈ xTs := xt_4 216 rfl rfl
theorem xz_X7_look : Cond.initialized "MirrorHeirs$Sight" ∈ xTs := xt_1 5 rfl rfl
theorem xe_X7_look : Cond.code ⟨"MirrorHeirs$Sight", "look", "(I)V"⟩ prog_9_method_2_code 9 none ∈ xTs := xt_4 217 rfl rfl
theorem xp_X7_look : (⟨"MirrorHeirs$Sight", "look", "(I)V"⟩ : MethodName).cls ≠ "java/lang/invoke/MethodHandle" ∧ (⟨"MirrorHeirs$Sight", "look", "(I)V"⟩ : MethodName).cls ≠ "java/lang/invoke/VarHandle" ∧ (parseMethodDescriptor (⟨"MirrorHeirs$Sight", "look", "(I)V"⟩ : MethodName).desc).map (fun d => d.parameters.length) = some 1 := by decide +kernel
theorem xs_X7_seenAt : Cond.instanceMethod ⟨"MirrorHeirs$Sight", "seenAt", "(I)I"⟩ ∈ xTs := xt_5 29 rfl rfl
theorem xq_X7_seenAt : Cond.selects "MirrorHeirs$Sight" ⟨"MirrorHeirs$Sight", "seenAt", "(I)I"⟩ ⟨"MirrorHeirs$Sight", "seenAt", "(I)I"⟩ ∈ xTs := xt_5 30 rfl rfl
theorem xz_X7_seenAt : Cond.initialized "MirrorHeirs$Sight" ∈ xTs := xt_1 5 rfl rfl
theorem xe_X7_seenAt : Cond.code ⟨"MirrorHeirs$Sight", "seenAt", "(I)I"⟩ prog_9_method_6_code 2 (some (.int)) ∈ xTs := xt_5 31 rfl rfl
theorem xp_X7_seenAt : (⟨"MirrorHeirs$Sight", "seenAt", "(I)I"⟩ : MethodName).cls ≠ "java/lang/invoke/MethodHandle" ∧ (⟨"MirrorHeirs$Sight", "seenAt", "(I)I"⟩ : MethodName).cls ≠ "java/lang/invoke/VarHandle" ∧ (parseMethodDescriptor (⟨"MirrorHeirs$Sight", "seenAt", "(I)I"⟩ : MethodName).desc).map (fun d => d.parameters.length) = some 1 := by decide +kernel
theorem xs_X7_send : Cond.instanceMethod ⟨"MirrorHeirs$Sight", "send", "(III)V"⟩ ∈ xTs := xt_4 234 rfl rfl
theorem xq_X7_send : Cond.selects "MirrorHeirs$Sight" ⟨"MirrorHeirs$Sight", "send", "(III)V"⟩ ⟨"MirrorHeirs$Sight", "send", "(III)V"⟩ ∈ xTs := xp2 13 rfl
theorem xz_X7_send : Cond.initialized "MirrorHeirs$Sight" ∈ xTs := xt_1 5 rfl rfl
theorem xe_X7_send : Cond.code ⟨"MirrorHeirs$Sight", "send", "(III)V"⟩ prog_9_method_4_code 4 none ∈ xTs := xt_4 235 rfl rfl
theorem xp_X7_send : (⟨"MirrorHeirs$Sight", "send", "(III)V"⟩ : MethodName).cls ≠ "java/lang/invoke/MethodHandle" ∧ (⟨"MirrorHeirs$Sight", "send", "(III)V"⟩ : MethodName).cls ≠ "java/lang/invoke/VarHandle" ∧ (parseMethodDescriptor (⟨"MirrorHeirs$Sight", "send", "(III)V"⟩ : MethodName).desc).map (fun d => d.parameters.length) = some 3 := by decide +kernel
theorem xs_X7_settleFog : Cond.instanceMethod ⟨"MirrorHeirs$Sight", "settleFog", "()V"⟩ ∈ xTs := xt_4 224 rfl rfl
theorem xq_X7_settleFog : Cond.selects "MirrorHeirs$Sight" ⟨"MirrorHeirs$Sight", "settleFog", "()V"⟩ ⟨"MirrorHeirs$Sight", "settleFog", "()V"⟩ ∈ xTs := xp2 12 rfl
theorem xz_X7_settleFog : Cond.initialized "MirrorHeirs$Sight" ∈ xTs := xt_1 5 rfl rfl
theorem xe_X7_settleFog : Cond.code ⟨"MirrorHeirs$Sight", "settleFog", "()V"⟩ prog_9_method_10_code 3 none ∈ xTs := xt_4 225 rfl rfl
theorem xp_X7_settleFog : (⟨"MirrorHeirs$Sight", "settleFog", "()V"⟩ : MethodName).cls ≠ "java/lang/invoke/MethodHandle" ∧ (⟨"MirrorHeirs$Sight", "settleFog", "()V"⟩ : MethodName).cls ≠ "java/lang/invoke/VarHandle" ∧ (parseMethodDescriptor (⟨"MirrorHeirs$Sight", "settleFog", "()V"⟩ : MethodName).desc).map (fun d => d.parameters.length) = some 0 := by decide +kernel
theorem xs_X7_thingsSeen : Cond.instanceMethod ⟨"MirrorHeirs$Sight", "thingsSeen", "()I"⟩ ∈ xTs := xt_5 25 rfl rfl
theorem xq_X7_thingsSeen : Cond.selects "MirrorHeirs$Sight" ⟨"MirrorHeirs$Sight", "thingsSeen", "()I"⟩ ⟨"MirrorHeirs$Sight", "thingsSeen", "()I"⟩ ∈ xTs := xt_5 26 rfl rfl
theorem xz_X7_thingsSeen : Cond.initialized "MirrorHeirs$Sight" ∈ xTs := xt_1 5 rfl rfl
theorem xe_X7_thingsSeen : Cond.code ⟨"MirrorHeirs$Sight", "thingsSeen", "()I"⟩ prog_9_method_7_code 3 (some (.int)) ∈ xTs := xt_5 27 rfl rfl
theorem xp_X7_thingsSeen : (⟨"MirrorHeirs$Sight", "thingsSeen", "()I"⟩ : MethodName).cls ≠ "java/lang/invoke/MethodHandle" ∧ (⟨"MirrorHeirs$Sight", "thingsSeen", "()I"⟩ : MethodName).cls ≠ "java/lang/invoke/VarHandle" ∧ (parseMethodDescriptor (⟨"MirrorHeirs$Sight", "thingsSeen", "()I"⟩ : MethodName).desc).map (fun d => d.parameters.length) = some 0 := by decide +kernel
theorem xs_X8_init : Cond.instanceMethod ⟨"MirrorHeirs$Slate", "<init>", "(II)V"⟩ ∈ xTs := xt_1 135 rfl rfl
theorem xz_X8_init : Cond.initialized "MirrorHeirs$Slate" ∈ xTs := xt_1 6 rfl rfl
theorem xe_X8_init : Cond.code ⟨"MirrorHeirs$Slate", "<init>", "(II)V"⟩ prog_10_method_1_code 4 none ∈ xTs := xt_1 136 rfl rfl
theorem xp_X8_init : (⟨"MirrorHeirs$Slate", "<init>", "(II)V"⟩ : MethodName).cls ≠ "java/lang/invoke/MethodHandle" ∧ (⟨"MirrorHeirs$Slate", "<init>", "(II)V"⟩ : MethodName).cls ≠ "java/lang/invoke/VarHandle" ∧ (parseMethodDescriptor (⟨"MirrorHeirs$Slate", "<init>", "(II)V"⟩ : MethodName).desc).map (fun d => d.parameters.length) = some 2 := by decide +kernel
theorem xs_X8_set : Cond.instanceMethod ⟨"MirrorHeirs$Slate", "set", "(II)V"⟩ ∈ xTs := xt_4 206 rfl rfl
theorem xq_X8_set : Cond.selects "MirrorHeirs$Slate" ⟨"MirrorHeirs$Slate", "set", "(II)V"⟩ ⟨"MirrorHeirs$Slate", "set", "(II)V"⟩ ∈ xTs := xt_4 207 rfl rfl
theorem xz_X8_set : Cond.initialized "MirrorHeirs$Slate" ∈ xTs := xt_1 6 rfl rfl
theorem xe_X8_set : Cond.code ⟨"MirrorHeirs$Slate", "set", "(II)V"⟩ prog_10_method_2_code 3 none ∈ xTs := xt_4 208 rfl rfl
theorem xp_X8_set : (⟨"MirrorHeirs$Slate", "set", "(II)V"⟩ : MethodName).cls ≠ "java/lang/invoke/MethodHandle" ∧ (⟨"MirrorHeirs$Slate", "set", "(II)V"⟩ : MethodName).cls ≠ "java/lang/invoke/VarHandle" ∧ (parseMethodDescriptor (⟨"MirrorHeirs$Slate", "set", "(II)V"⟩ : MethodName).desc).map (fun d => d.parameters.length) = some 2 := by decide +kernel
theorem xs_X8_value : Cond.instanceMethod ⟨"MirrorHeirs$Slate", "value", "(LMirrorHeirs$Text;II)I"⟩ ∈ xTs := xt_5 12 rfl rfl
theorem xq_X8_value : Cond.selects "MirrorHeirs$Slate" ⟨"MirrorHeirs$Slate", "value", "(LMirrorHeirs$Text;II)I"⟩ ⟨"MirrorHeirs$Slate", "value", "(LMirrorHeirs$Text;II)I"⟩ ∈ xTs := xt_5 13 rfl rfl
theorem xz_X8_value : Cond.initialized "MirrorHeirs$Slate" ∈ xTs := xt_1 6 rfl rfl
theorem xe_X8_value : Cond.code ⟨"MirrorHeirs$Slate", "value", "(LMirrorHeirs$Text;II)I"⟩ prog_10_method_3_code 9 (some (.int)) ∈ xTs := xt_5 14 rfl rfl
theorem xp_X8_value : (⟨"MirrorHeirs$Slate", "value", "(LMirrorHeirs$Text;II)I"⟩ : MethodName).cls ≠ "java/lang/invoke/MethodHandle" ∧ (⟨"MirrorHeirs$Slate", "value", "(LMirrorHeirs$Text;II)I"⟩ : MethodName).cls ≠ "java/lang/invoke/VarHandle" ∧ (parseMethodDescriptor (⟨"MirrorHeirs$Slate", "value", "(LMirrorHeirs$Text;II)I"⟩ : MethodName).desc).map (fun d => d.parameters.length) = some 3 := by decide +kernel
theorem xs_X9_clear : Cond.instanceMethod ⟨"MirrorHeirs$Text", "clear", "()V"⟩ ∈ xTs := xt_3 218 rfl rfl
theorem xq_X9_clear : Cond.selects "MirrorHeirs$Text" ⟨"MirrorHeirs$Text", "clear", "()V"⟩ ⟨"MirrorHeirs$Text", "clear", "()V"⟩ ∈ xTs := xt_3 219 rfl rfl
theorem xz_X9_clear : Cond.initialized "MirrorHeirs$Text" ∈ xTs := xt_1 10 rfl rfl
theorem xe_X9_clear : Cond.code ⟨"MirrorHeirs$Text", "clear", "()V"⟩ prog_11_method_2_code 1 none ∈ xTs := xt_3 220 rfl rfl
theorem xp_X9_clear : (⟨"MirrorHeirs$Text", "clear", "()V"⟩ : MethodName).cls ≠ "java/lang/invoke/MethodHandle" ∧ (⟨"MirrorHeirs$Text", "clear", "()V"⟩ : MethodName).cls ≠ "java/lang/invoke/VarHandle" ∧ (parseMethodDescriptor (⟨"MirrorHeirs$Text", "clear", "()V"⟩ : MethodName).desc).map (fun d => d.parameters.length) = some 0 := by decide +kernel
theorem xs_X9_init : Cond.instanceMethod ⟨"MirrorHeirs$Text", "<init>", "(I)V"⟩ ∈ xTs := xt_1 233 rfl rfl
theorem xz_X9_init : Cond.initialized "MirrorHeirs$Text" ∈ xTs := xt_1 10 rfl rfl
theorem xe_X9_init : Cond.code ⟨"MirrorHeirs$Text", "<init>", "(I)V"⟩ prog_11_method_1_code 2 none ∈ xTs := xt_1 234 rfl rfl
theorem xp_X9_init : (⟨"MirrorHeirs$Text", "<init>", "(I)V"⟩ : MethodName).cls ≠ "java/lang/invoke/MethodHandle" ∧ (⟨"MirrorHeirs$Text", "<init>", "(I)V"⟩ : MethodName).cls ≠ "java/lang/invoke/VarHandle" ∧ (parseMethodDescriptor (⟨"MirrorHeirs$Text", "<init>", "(I)V"⟩ : MethodName).desc).map (fun d => d.parameters.length) = some 1 := by decide +kernel
theorem xs_X9_trimmed : Cond.instanceMethod ⟨"MirrorHeirs$Text", "trimmed", "()LMirrorHeirs$Text;"⟩ ∈ xTs := xt_4 158 rfl rfl
theorem xq_X9_trimmed : Cond.selects "MirrorHeirs$Text" ⟨"MirrorHeirs$Text", "trimmed", "()LMirrorHeirs$Text;"⟩ ⟨"MirrorHeirs$Text", "trimmed", "()LMirrorHeirs$Text;"⟩ ∈ xTs := xt_4 159 rfl rfl
theorem xz_X9_trimmed : Cond.initialized "MirrorHeirs$Text" ∈ xTs := xt_1 10 rfl rfl
theorem xe_X9_trimmed : Cond.code ⟨"MirrorHeirs$Text", "trimmed", "()LMirrorHeirs$Text;"⟩ prog_11_method_5_code 3 (some (.object "MirrorHeirs$Text")) ∈ xTs := xt_4 160 rfl rfl
theorem xp_X9_trimmed : (⟨"MirrorHeirs$Text", "trimmed", "()LMirrorHeirs$Text;"⟩ : MethodName).cls ≠ "java/lang/invoke/MethodHandle" ∧ (⟨"MirrorHeirs$Text", "trimmed", "()LMirrorHeirs$Text;"⟩ : MethodName).cls ≠ "java/lang/invoke/VarHandle" ∧ (parseMethodDescriptor (⟨"MirrorHeirs$Text", "trimmed", "()LMirrorHeirs$Text;"⟩ : MethodName).desc).map (fun d => d.parameters.length) = some 0 := by decide +kernel
