/-! names: classes, their fields, the words that they need (places in the tables' list) -/
/-- the words that stay true -/
def xTs : List Cond := lw_tbl.filter goodWord
theorem ix_gd {w : Cond} (h : w ∈ lw_tbl) (hg : goodWord w = true) : w ∈ xTs := List.mem_filter.mpr ⟨h, hg⟩
theorem xt_1 {w : Cond} (i : Nat) (h : tables_1_1[i]? = some w) (hg : goodWord w = true) : w ∈ xTs := ix_gd (List.mem_append_right _ (show w ∈ tables_1 from List.mem_append_left _ (List.mem_of_getElem? h))) hg
theorem xt_2 {w : Cond} (i : Nat) (h : tables_1_2[i]? = some w) (hg : goodWord w = true) : w ∈ xTs := ix_gd (List.mem_append_right _ (show w ∈ tables_1 from List.mem_append_right _ (List.mem_append_left _ (List.mem_of_getElem? h)))) hg
theorem xt_3 {w : Cond} (i : Nat) (h : tables_1_3[i]? = some w) (hg : goodWord w = true) : w ∈ xTs := ix_gd (List.mem_append_right _ (show w ∈ tables_1 from List.mem_append_right _ (List.mem_append_right _ (List.mem_append_left _ (List.mem_of_getElem? h))))) hg
theorem xt_4 {w : Cond} (i : Nat) (h : tables_1_4[i]? = some w) (hg : goodWord w = true) : w ∈ xTs := ix_gd (List.mem_append_right _ (show w ∈ tables_1 from List.mem_append_right _ (List.mem_append_right _ (List.mem_append_right _ (List.mem_append_left _ (List.mem_of_getElem? h)))))) hg
theorem xt_5 {w : Cond} (i : Nat) (h : tables_1_5[i]? = some w) (hg : goodWord w = true) : w ∈ xTs := ix_gd (List.mem_append_right _ (show w ∈ tables_1 from List.mem_append_right _ (List.mem_append_right _ (List.mem_append_right _ (List.mem_append_right _ (List.mem_append_left _ (List.mem_of_getElem? h))))))) hg
theorem xt_6 {w : Cond} (i : Nat) (h : tables_1_6[i]? = some w) (hg : goodWord w = true) : w ∈ xTs := ix_gd (List.mem_append_right _ (show w ∈ tables_1 from List.mem_append_right _ (List.mem_append_right _ (List.mem_append_right _ (List.mem_append_right _ (List.mem_append_right _ (List.mem_append_left _ (List.mem_of_getElem? h)))))))) hg
theorem xt_7 {w : Cond} (i : Nat) (h : tables_1_7[i]? = some w) (hg : goodWord w = true) : w ∈ xTs := ix_gd (List.mem_append_right _ (show w ∈ tables_1 from List.mem_append_right _ (List.mem_append_right _ (List.mem_append_right _ (List.mem_append_right _ (List.mem_append_right _ (List.mem_append_right _ (List.mem_append_left _ (List.mem_of_getElem? h))))))))) hg
theorem xt_8 {w : Cond} (i : Nat) (h : tables_1_8[i]? = some w) (hg : goodWord w = true) : w ∈ xTs := ix_gd (List.mem_append_right _ (show w ∈ tables_1 from List.mem_append_right _ (List.mem_append_right _ (List.mem_append_right _ (List.mem_append_right _ (List.mem_append_right _ (List.mem_append_right _ (List.mem_append_right _ (List.mem_append_left _ (List.mem_of_getElem? h)))))))))) hg
theorem xt_9 {w : Cond} (i : Nat) (h : tables_1_9[i]? = some w) (hg : goodWord w = true) : w ∈ xTs := ix_gd (List.mem_append_right _ (show w ∈ tables_1 from List.mem_append_right _ (List.mem_append_right _ (List.mem_append_right _ (List.mem_append_right _ (List.mem_append_right _ (List.mem_append_right _ (List.mem_append_right _ (List.mem_append_right _ ((List.mem_of_getElem? h))))))))))) hg
theorem xp1 {q : MethodName × Nat} (i : Nat) (h : lw_privs_1[i]? = some q) : Cond.selects q.1.cls q.1 q.1 ∈ xTs := ix_gd (List.mem_append_left _ (List.mem_map.mpr ⟨q, (show q ∈ lw_privs from List.mem_append_left _ (List.mem_of_getElem? h)), rfl⟩)) rfl
theorem xp2 {q : MethodName × Nat} (i : Nat) (h : lw_privs_2[i]? = some q) : Cond.selects q.1.cls q.1 q.1 ∈ xTs := ix_gd (List.mem_append_left _ (List.mem_map.mpr ⟨q, (show q ∈ lw_privs from List.mem_append_right _ (List.mem_append_left _ (List.mem_of_getElem? h))), rfl⟩)) rfl
theorem xp3 {q : MethodName × Nat} (i : Nat) (h : lw_privs_3[i]? = some q) : Cond.selects q.1.cls q.1 q.1 ∈ xTs := ix_gd (List.mem_append_left _ (List.mem_map.mpr ⟨q, (show q ∈ lw_privs from List.mem_append_right _ (List.mem_append_right _ (List.mem_append_left _ (List.mem_of_getElem? h)))), rfl⟩)) rfl
theorem xp4 {q : MethodName × Nat} (i : Nat) (h : lw_privs_4[i]? = some q) : Cond.selects q.1.cls q.1 q.1 ∈ xTs := ix_gd (List.mem_append_left _ (List.mem_map.mpr ⟨q, (show q ∈ lw_privs from List.mem_append_right _ (List.mem_append_right _ (List.mem_append_right _ (List.mem_append_left _ (List.mem_of_getElem? h))))), rfl⟩)) rfl
theorem xp5 {q : MethodName × Nat} (i : Nat) (h : lw_privs_5[i]? = some q) : Cond.selects q.1.cls q.1 q.1 ∈ xTs := ix_gd (List.mem_append_left _ (List.mem_map.mpr ⟨q, (show q ∈ lw_privs from List.mem_append_right _ (List.mem_append_right _ (List.mem_append_right _ (List.mem_append_right _ (List.mem_append_left _ (List.mem_of_getElem? h)))))), rfl⟩)) rfl
theorem xp6 {q : MethodName × Nat} (i : Nat) (h : lw_privs_6[i]? = some q) : Cond.selects q.1.cls q.1 q.1 ∈ xTs := ix_gd (List.mem_append_left _ (List.mem_map.mpr ⟨q, (show q ∈ lw_privs from List.mem_append_right _ (List.mem_append_right _ (List.mem_append_right _ (List.mem_append_right _ (List.mem_append_right _ (List.mem_append_left _ (List.mem_of_getElem? h))))))), rfl⟩)) rfl
theorem xp7 {q : MethodName × Nat} (i : Nat) (h : lw_privs_7[i]? = some q) : Cond.selects q.1.cls q.1 q.1 ∈ xTs := ix_gd (List.mem_append_left _ (List.mem_map.mpr ⟨q, (show q ∈ lw_privs from List.mem_append_right _ (List.mem_append_right _ (List.mem_append_right _ (List.mem_append_right _ (List.mem_append_right _ (List.mem_append_right _ (List.mem_append_left _ (List.mem_of_getElem? h)))))))), rfl⟩)) rfl
theorem xp8 {q : MethodName × Nat} (i : Nat) (h : lw_privs_8[i]? = some q) : Cond.selects q.1.cls q.1 q.1 ∈ xTs := ix_gd (List.mem_append_left _ (List.mem_map.mpr ⟨q, (show q ∈ lw_privs from List.mem_append_right _ (List.mem_append_right _ (List.mem_append_right _ (List.mem_append_right _ (List.mem_append_right _ (List.mem_append_right _ (List.mem_append_right _ ((List.mem_of_getElem? h))))))))), rfl⟩)) rfl
def xR0 : String := "MirrorHeirs$Deeds"
def xT0 : u_T := fun k => match k with
  | 0 => ("MirrorHeirs$Deeds", "hall", "LMirrorHeirs$Hall;", true)
  | 1 => ("MirrorHeirs$Deeds", "shares", "LMirrorHeirs$Shares;", true)
  | 2 => ("MirrorHeirs$Deeds", "slate", "LMirrorHeirs$Slate;", true)
  | 3 => ("MirrorHeirs$Deeds", "log", "LMirrorHeirs$Rows;", true)
  | 4 => ("MirrorHeirs$Deeds", "hallAhead", "LMirrorHeirs$Hall;", true)
  | 5 => ("MirrorHeirs$Deeds", "logAhead", "LMirrorHeirs$Rows;", true)
  | _ => ("MirrorHeirs$Deeds", "stoppedAt", "I", false)
def xt0 : Nat → FieldType := fun k => match k with
  | 0 => .object "MirrorHeirs$Hall"
  | 1 => .object "MirrorHeirs$Shares"
  | 2 => .object "MirrorHeirs$Slate"
  | 3 => .object "MirrorHeirs$Rows"
  | 4 => .object "MirrorHeirs$Hall"
  | 5 => .object "MirrorHeirs$Rows"
  | _ => .int
theorem xn0 : ∀ a, a < 7 → ∀ b, b < 7 → a ≠ b → (xT0 a).2.1 ≠ (xT0 b).2.1 := by decide +kernel
theorem xy0 : ∀ k, k < 7 → parseFieldDescriptor (xT0 k).2.2.1 = some (xt0 k) := by decide +kernel
theorem xi0_ : ∀ j, j < 7 → u_lay xR0 xT0 j ∈ xTs := fun j hj => match j, hj with
  | 0, _ => xt_2 200 rfl rfl
  | 1, _ => xt_2 202 rfl rfl
  | 2, _ => xt_2 204 rfl rfl
  | 3, _ => xt_2 206 rfl rfl
  | 4, _ => xt_2 208 rfl rfl
  | 5, _ => xt_2 210 rfl rfl
  | 6, _ => xt_2 212 rfl rfl
  | j + 7, hj => absurd hj (by omega)
theorem xi0 : ∀ w ∈ u_ws xR0 xT0 7, w ∈ xTs := List.forall_mem_map.mpr (fun j hj => xi0_ j (List.mem_range.mp hj))
def xR1 : String := "MirrorHeirs$Hall"
def xT1 : u_T := fun k => match k with
  | 0 => ("MirrorHeirs$Hall", "kinds", "[I", true)
  | 1 => ("MirrorHeirs$Hall", "termValues", "[I", true)
  | 2 => ("MirrorHeirs$Hall", "pivots", "LMirrorHeirs$Rows;", true)
  | 3 => ("MirrorHeirs$Hall", "heirs", "LMirrorHeirs$Rows;", true)
  | 4 => ("MirrorHeirs$Hall", "things", "LMirrorHeirs$Rows;", true)
  | 5 => ("MirrorHeirs$Hall", "candles", "LMirrorHeirs$Rows;", true)
  | 6 => ("MirrorHeirs$Hall", "tellings", "LMirrorHeirs$Rows;", true)
  | 7 => ("MirrorHeirs$Hall", "hints", "LMirrorHeirs$Rows;", true)
  | 8 => ("MirrorHeirs$Hall", "laws", "[LMirrorHeirs$Text;", true)
  | 9 => ("MirrorHeirs$Hall", "lawCount", "I", false)
  | _ => ("MirrorHeirs$Hall", "inForce", "I", false)
def xt1 : Nat → FieldType := fun k => match k with
  | 0 => .array (.int)
  | 1 => .array (.int)
  | 2 => .object "MirrorHeirs$Rows"
  | 3 => .object "MirrorHeirs$Rows"
  | 4 => .object "MirrorHeirs$Rows"
  | 5 => .object "MirrorHeirs$Rows"
  | 6 => .object "MirrorHeirs$Rows"
  | 7 => .object "MirrorHeirs$Rows"
  | 8 => .array (.object "MirrorHeirs$Text")
  | 9 => .int
  | _ => .int
theorem xn1 : ∀ a, a < 11 → ∀ b, b < 11 → a ≠ b → (xT1 a).2.1 ≠ (xT1 b).2.1 := by decide +kernel
theorem xy1 : ∀ k, k < 11 → parseFieldDescriptor (xT1 k).2.2.1 = some (xt1 k) := by decide +kernel
theorem xi1_ : ∀ j, j < 11 → u_lay xR1 xT1 j ∈ xTs := fun j hj => match j, hj with
  | 0, _ => xt_1 103 rfl rfl
  | 1, _ => xt_1 105 rfl rfl
  | 2, _ => xt_1 107 rfl rfl
  | 3, _ => xt_1 109 rfl rfl
  | 4, _ => xt_1 111 rfl rfl
  | 5, _ => xt_1 113 rfl rfl
  | 6, _ => xt_1 115 rfl rfl
  | 7, _ => xt_1 117 rfl rfl
  | 8, _ => xt_1 119 rfl rfl
  | 9, _ => xt_1 121 rfl rfl
  | 10, _ => xt_1 123 rfl rfl
  | j + 11, hj => absurd hj (by omega)
theorem xi1 : ∀ w ∈ u_ws xR1 xT1 11, w ∈ xTs := List.forall_mem_map.mpr (fun j hj => xi1_ j (List.mem_range.mp hj))
def xR2 : String := "MirrorHeirs$Places"
def xT2 : u_T := fun k => match k with
  | 0 => ("MirrorHeirs$Places", "hall", "LMirrorHeirs$Hall;", true)
  | 1 => ("MirrorHeirs$Places", "sight", "LMirrorHeirs$Sight;", true)
  | 2 => ("MirrorHeirs$Places", "masks", "[I", true)
  | 3 => ("MirrorHeirs$Places", "sizes", "[I", true)
  | 4 => ("MirrorHeirs$Places", "firsts", "[I", true)
  | 5 => ("MirrorHeirs$Places", "groups", "I", false)
  | 6 => ("MirrorHeirs$Places", "all", "I", false)
  | 7 => ("MirrorHeirs$Places", "blanks", "J", false)
  | 8 => ("MirrorHeirs$Places", "ways", "J", false)
  | _ => ("MirrorHeirs$Places", "best", "J", false)
def xt2 : Nat → FieldType := fun k => match k with
  | 0 => .object "MirrorHeirs$Hall"
  | 1 => .object "MirrorHeirs$Sight"
  | 2 => .array (.int)
  | 3 => .array (.int)
  | 4 => .array (.int)
  | 5 => .int
  | 6 => .int
  | 7 => .long
  | 8 => .long
  | _ => .long
theorem xn2 : ∀ a, a < 10 → ∀ b, b < 10 → a ≠ b → (xT2 a).2.1 ≠ (xT2 b).2.1 := by decide +kernel
theorem xy2 : ∀ k, k < 10 → parseFieldDescriptor (xT2 k).2.2.1 = some (xt2 k) := by decide +kernel
theorem xi2_ : ∀ j, j < 10 → u_lay xR2 xT2 j ∈ xTs := fun j hj => match j, hj with
  | 0, _ => xt_2 136 rfl rfl
  | 1, _ => xt_2 138 rfl rfl
  | 2, _ => xt_2 140 rfl rfl
  | 3, _ => xt_2 142 rfl rfl
  | 4, _ => xt_2 144 rfl rfl
  | 5, _ => xt_2 146 rfl rfl
  | 6, _ => xt_2 148 rfl rfl
  | 7, _ => xt_2 150 rfl rfl
  | 8, _ => xt_2 152 rfl rfl
  | 9, _ => xt_2 154 rfl rfl
  | j + 10, hj => absurd hj (by omega)
theorem xi2 : ∀ w ∈ u_ws xR2 xT2 10, w ∈ xTs := List.forall_mem_map.mpr (fun j hj => xi2_ j (List.mem_range.mp hj))
def xR3 : String := "MirrorHeirs$Reader"
def xT3 : u_T := fun k => match k with
  | 0 => ("MirrorHeirs$Reader", "bytes", "[I", true)
  | 1 => ("MirrorHeirs$Reader", "draft", "LMirrorHeirs$Text;", true)
  | 2 => ("MirrorHeirs$Reader", "length", "I", false)
  | 3 => ("MirrorHeirs$Reader", "start", "I", false)
  | 4 => ("MirrorHeirs$Reader", "next", "I", false)
  | 5 => ("MirrorHeirs$Reader", "sort", "I", false)
  | 6 => ("MirrorHeirs$Reader", "number", "I", false)
  | 7 => ("MirrorHeirs$Reader", "faultAt", "I", false)
  | 8 => ("MirrorHeirs$Reader", "parts", "I", false)
  | 9 => ("MirrorHeirs$Reader", "brackets", "I", false)
  | 10 => ("MirrorHeirs$Reader", "lawful", "Z", false)
  | _ => ("MirrorHeirs$Reader", "fogging", "Z", false)
def xt3 : Nat → FieldType := fun k => match k with
  | 0 => .array (.int)
  | 1 => .object "MirrorHeirs$Text"
  | 2 => .int
  | 3 => .int
  | 4 => .int
  | 5 => .int
  | 6 => .int
  | 7 => .int
  | 8 => .int
  | 9 => .int
  | 10 => .boolean
  | _ => .boolean
theorem xn3 : ∀ a, a < 12 → ∀ b, b < 12 → a ≠ b → (xT3 a).2.1 ≠ (xT3 b).2.1 := by decide +kernel
theorem xy3 : ∀ k, k < 12 → parseFieldDescriptor (xT3 k).2.2.1 = some (xt3 k) := by decide +kernel
theorem xi3_ : ∀ j, j < 12 → u_lay xR3 xT3 j ∈ xTs := fun j hj => match j, hj with
  | 0, _ => xt_2 44 rfl rfl
  | 1, _ => xt_2 46 rfl rfl
  | 2, _ => xt_2 48 rfl rfl
  | 3, _ => xt_2 50 rfl rfl
  | 4, _ => xt_2 52 rfl rfl
  | 5, _ => xt_2 54 rfl rfl
  | 6, _ => xt_2 56 rfl rfl
  | 7, _ => xt_2 58 rfl rfl
  | 8, _ => xt_2 60 rfl rfl
  | 9, _ => xt_2 62 rfl rfl
  | 10, _ => xt_2 64 rfl rfl
  | 11, _ => xt_2 66 rfl rfl
  | j + 12, hj => absurd hj (by omega)
theorem xi3 : ∀ w ∈ u_ws xR3 xT3 12, w ∈ xTs := List.forall_mem_map.mpr (fun j hj => xi3_ j (List.mem_range.mp hj))
def xR4 : String := "MirrorHeirs$Rows"
def xT4 : u_T := fun k => match k with
  | 0 => ("MirrorHeirs$Rows", "numbers", "[I", true)
  | 1 => ("MirrorHeirs$Rows", "width", "I", true)
  | 2 => ("MirrorHeirs$Rows", "most", "I", true)
  | _ => ("MirrorHeirs$Rows", "size", "I", false)
def xt4 : Nat → FieldType := fun k => match k with
  | 0 => .array (.int)
  | 1 => .int
  | 2 => .int
  | _ => .int
theorem xn4 : ∀ a, a < 4 → ∀ b, b < 4 → a ≠ b → (xT4 a).2.1 ≠ (xT4 b).2.1 := by decide +kernel
theorem xy4 : ∀ k, k < 4 → parseFieldDescriptor (xT4 k).2.2.1 = some (xt4 k) := by decide +kernel
theorem xi4_ : ∀ j, j < 4 → u_lay xR4 xT4 j ∈ xTs := fun j hj => match j, hj with
  | 0, _ => xt_1 57 rfl rfl
  | 1, _ => xt_1 59 rfl rfl
  | 2, _ => xt_1 61 rfl rfl
  | 3, _ => xt_1 63 rfl rfl
  | j + 4, hj => absurd hj (by omega)
theorem xi4 : ∀ w ∈ u_ws xR4 xT4 4, w ∈ xTs := List.forall_mem_map.mpr (fun j hj => xi4_ j (List.mem_range.mp hj))
def xR5 : String := "MirrorHeirs$Sets"
def xT5 : u_T := fun k => match k with
  | 0 => ("MirrorHeirs$Sets", "hall", "LMirrorHeirs$Hall;", true)
  | 1 => ("MirrorHeirs$Sets", "sight", "LMirrorHeirs$Sight;", true)
  | 2 => ("MirrorHeirs$Sets", "shares", "LMirrorHeirs$Shares;", true)
  | 3 => ("MirrorHeirs$Sets", "glimpses", "[J", true)
  | 4 => ("MirrorHeirs$Sets", "lights", "[I", true)
  | 5 => ("MirrorHeirs$Sets", "estates", "[I", true)
  | 6 => ("MirrorHeirs$Sets", "traces", "[I", true)
  | 7 => ("MirrorHeirs$Sets", "fits", "[I", true)
  | 8 => ("MirrorHeirs$Sets", "passed", "[I", true)
  | 9 => ("MirrorHeirs$Sets", "ready", "Z", false)
  | 10 => ("MirrorHeirs$Sets", "turns", "I", false)
  | 11 => ("MirrorHeirs$Sets", "reached", "I", false)
  | _ => ("MirrorHeirs$Sets", "steps", "I", false)
def xt5 : Nat → FieldType := fun k => match k with
  | 0 => .object "MirrorHeirs$Hall"
  | 1 => .object "MirrorHeirs$Sight"
  | 2 => .object "MirrorHeirs$Shares"
  | 3 => .array (.long)
  | 4 => .array (.int)
  | 5 => .array (.int)
  | 6 => .array (.int)
  | 7 => .array (.int)
  | 8 => .array (.int)
  | 9 => .boolean
  | 10 => .int
  | 11 => .int
  | _ => .int
theorem xn5 : ∀ a, a < 13 → ∀ b, b < 13 → a ≠ b → (xT5 a).2.1 ≠ (xT5 b).2.1 := by decide +kernel
theorem xy5 : ∀ k, k < 13 → parseFieldDescriptor (xT5 k).2.2.1 = some (xt5 k) := by decide +kernel
theorem xi5_ : ∀ j, j < 13 → u_lay xR5 xT5 j ∈ xTs := fun j hj => match j, hj with
  | 0, _ => xt_2 92 rfl rfl
  | 1, _ => xt_2 94 rfl rfl
  | 2, _ => xt_2 96 rfl rfl
  | 3, _ => xt_2 98 rfl rfl
  | 4, _ => xt_2 100 rfl rfl
  | 5, _ => xt_2 102 rfl rfl
  | 6, _ => xt_2 104 rfl rfl
  | 7, _ => xt_2 106 rfl rfl
  | 8, _ => xt_2 108 rfl rfl
  | 9, _ => xt_2 110 rfl rfl
  | 10, _ => xt_2 112 rfl rfl
  | 11, _ => xt_2 114 rfl rfl
  | 12, _ => xt_2 116 rfl rfl
  | j + 13, hj => absurd hj (by omega)
theorem xi5 : ∀ w ∈ u_ws xR5 xT5 13, w ∈ xTs := List.forall_mem_map.mpr (fun j hj => xi5_ j (List.mem_range.mp hj))
def xR6 : String := "MirrorHeirs$Shares"
def xT6 : u_T := fun k => match k with
  | 0 => ("MirrorHeirs$Shares", "hall", "LMirrorHeirs$Hall;", true)
  | 1 => ("MirrorHeirs$Shares", "sight", "LMirrorHeirs$Sight;", true)
  | 2 => ("MirrorHeirs$Shares", "slate", "LMirrorHeirs$Slate;", true)
  | 3 => ("MirrorHeirs$Shares", "glimpses", "[J", true)
  | 4 => ("MirrorHeirs$Shares", "claims", "[I", true)
  | 5 => ("MirrorHeirs$Shares", "totals", "[I", true)
  | 6 => ("MirrorHeirs$Shares", "estates", "[I", true)
  | _ => ("MirrorHeirs$Shares", "litThings", "I", false)
def xt6 : Nat → FieldType := fun k => match k with
  | 0 => .object "MirrorHeirs$Hall"
  | 1 => .object "MirrorHeirs$Sight"
  | 2 => .object "MirrorHeirs$Slate"
  | 3 => .array (.long)
  | 4 => .array (.int)
  | 5 => .array (.int)
  | 6 => .array (.int)
  | _ => .int
theorem xn6 : ∀ a, a < 8 → ∀ b, b < 8 → a ≠ b → (xT6 a).2.1 ≠ (xT6 b).2.1 := by decide +kernel
theorem xy6 : ∀ k, k < 8 → parseFieldDescriptor (xT6 k).2.2.1 = some (xt6 k) := by decide +kernel
theorem xi6_ : ∀ j, j < 8 → u_lay xR6 xT6 j ∈ xTs := fun j hj => match j, hj with
  | 0, _ => xt_1 205 rfl rfl
  | 1, _ => xt_1 207 rfl rfl
  | 2, _ => xt_1 209 rfl rfl
  | 3, _ => xt_1 211 rfl rfl
  | 4, _ => xt_1 213 rfl rfl
  | 5, _ => xt_1 215 rfl rfl
  | 6, _ => xt_1 217 rfl rfl
  | 7, _ => xt_1 219 rfl rfl
  | j + 8, hj => absurd hj (by omega)
theorem xi6 : ∀ w ∈ u_ws xR6 xT6 8, w ∈ xTs := List.forall_mem_map.mpr (fun j hj => xi6_ j (List.mem_range.mp hj))
def xR7 : String := "MirrorHeirs$Sight"
def xT7 : u_T := fun k => match k with
  | 0 => ("MirrorHeirs$Sight", "hall", "LMirrorHeirs$Hall;", true)
  | 1 => ("MirrorHeirs$Sight", "slate", "LMirrorHeirs$Slate;", true)
  | 2 => ("MirrorHeirs$Sight", "seen", "[I", true)
  | 3 => ("MirrorHeirs$Sight", "been", "[I", true)
  | 4 => ("MirrorHeirs$Sight", "beams", "[I", true)
  | 5 => ("MirrorHeirs$Sight", "fog", "[I", true)
  | 6 => ("MirrorHeirs$Sight", "beamCount", "I", false)
  | 7 => ("MirrorHeirs$Sight", "met", "J", false)
  | 8 => ("MirrorHeirs$Sight", "fogLaw", "LMirrorHeirs$Text;", false)
  | 9 => ("MirrorHeirs$Sight", "fogHour", "I", false)
  | 10 => ("MirrorHeirs$Sight", "foggy", "Z", false)
  | _ => ("MirrorHeirs$Sight", "shifting", "Z", false)
def xt7 : Nat → FieldType := fun k => match k with
  | 0 => .object "MirrorHeirs$Hall"
  | 1 => .object "MirrorHeirs$Slate"
  | 2 => .array (.int)
  | 3 => .array (.int)
  | 4 => .array (.int)
  | 5 => .array (.int)
  | 6 => .int
  | 7 => .long
  | 8 => .object "MirrorHeirs$Text"
  | 9 => .int
  | 10 => .boolean
  | _ => .boolean
theorem xn7 : ∀ a, a < 12 → ∀ b, b < 12 → a ≠ b → (xT7 a).2.1 ≠ (xT7 b).2.1 := by decide +kernel
theorem xy7 : ∀ k, k < 12 → parseFieldDescriptor (xT7 k).2.2.1 = some (xt7 k) := by decide +kernel
theorem xi7_ : ∀ j, j < 12 → u_lay xR7 xT7 j ∈ xTs := fun j hj => match j, hj with
  | 0, _ => xt_1 162 rfl rfl
  | 1, _ => xt_1 164 rfl rfl
  | 2, _ => xt_1 166 rfl rfl
  | 3, _ => xt_1 168 rfl rfl
  | 4, _ => xt_1 170 rfl rfl
  | 5, _ => xt_1 172 rfl rfl
  | 6, _ => xt_1 174 rfl rfl
  | 7, _ => xt_1 176 rfl rfl
  | 8, _ => xt_1 178 rfl rfl
  | 9, _ => xt_1 180 rfl rfl
  | 10, _ => xt_1 182 rfl rfl
  | 11, _ => xt_1 184 rfl rfl
  | j + 12, hj => absurd hj (by omega)
theorem xi7 : ∀ w ∈ u_ws xR7 xT7 12, w ∈ xTs := List.forall_mem_map.mpr (fun j hj => xi7_ j (List.mem_range.mp hj))
def xR8 : String := "MirrorHeirs$Slate"
def xT8 : u_T := fun k => match k with
  | 0 => ("MirrorHeirs$Slate", "slots", "[I", true)
  | _ => ("MirrorHeirs$Slate", "stack", "[I", true)
def xt8 : Nat → FieldType := fun k => match k with
  | 0 => .array (.int)
  | _ => .array (.int)
theorem xn8 : ∀ a, a < 2 → ∀ b, b < 2 → a ≠ b → (xT8 a).2.1 ≠ (xT8 b).2.1 := by decide +kernel
theorem xy8 : ∀ k, k < 2 → parseFieldDescriptor (xT8 k).2.2.1 = some (xt8 k) := by decide +kernel
theorem xi8_ : ∀ j, j < 2 → u_lay xR8 xT8 j ∈ xTs := fun j hj => match j, hj with
  | 0, _ => xt_1 144 rfl rfl
  | 1, _ => xt_1 146 rfl rfl
  | j + 2, hj => absurd hj (by omega)
theorem xi8 : ∀ w ∈ u_ws xR8 xT8 2, w ∈ xTs := List.forall_mem_map.mpr (fun j hj => xi8_ j (List.mem_range.mp hj))
def xR9 : String := "MirrorHeirs$Text"
def xT9 : u_T := fun k => match k with
  | 0 => ("MirrorHeirs$Text", "code", "[I", true)
  | 1 => ("MirrorHeirs$Text", "lines", "LMirrorHeirs$Rows;", true)
  | 2 => ("MirrorHeirs$Text", "length", "I", false)
  | 3 => ("MirrorHeirs$Text", "fogs", "Z", false)
  | 4 => ("MirrorHeirs$Text", "fogsByGlance", "Z", false)
  | _ => ("MirrorHeirs$Text", "looks", "Z", false)
def xt9 : Nat → FieldType := fun k => match k with
  | 0 => .array (.int)
  | 1 => .object "MirrorHeirs$Rows"
  | 2 => .int
  | 3 => .boolean
  | 4 => .boolean
  | _ => .boolean
theorem xn9 : ∀ a, a < 6 → ∀ b, b < 6 → a ≠ b → (xT9 a).2.1 ≠ (xT9 b).2.1 := by decide +kernel
theorem xy9 : ∀ k, k < 6 → parseFieldDescriptor (xT9 k).2.2.1 = some (xt9 k) := by decide +kernel
theorem xi9_ : ∀ j, j < 6 → u_lay xR9 xT9 j ∈ xTs := fun j hj => match j, hj with
  | 0, _ => xt_2 18 rfl rfl
  | 1, _ => xt_2 20 rfl rfl
  | 2, _ => xt_2 22 rfl rfl
  | 3, _ => xt_2 24 rfl rfl
  | 4, _ => xt_2 26 rfl rfl
  | 5, _ => xt_2 28 rfl rfl
  | j + 6, hj => absurd hj (by omega)
theorem xi9 : ∀ w ∈ u_ws xR9 xT9 6, w ∈ xTs := List.forall_mem_map.mpr (fun j hj => xi9_ j (List.mem_range.mp hj))
def xR10 : String := "MirrorHeirs$Wind"
def xT10 : u_T := fun k => match k with
  | 0 => ("MirrorHeirs$Wind", "hall", "LMirrorHeirs$Hall;", true)
  | 1 => ("MirrorHeirs$Wind", "shares", "LMirrorHeirs$Shares;", true)
  | 2 => ("MirrorHeirs$Wind", "lamps", "LMirrorHeirs$Rows;", true)
  | _ => ("MirrorHeirs$Wind", "state", "I", false)
def xt10 : Nat → FieldType := fun k => match k with
  | 0 => .object "MirrorHeirs$Hall"
  | 1 => .object "MirrorHeirs$Shares"
  | 2 => .object "MirrorHeirs$Rows"
  | _ => .int
theorem xn10 : ∀ a, a < 4 → ∀ b, b < 4 → a ≠ b → (xT10 a).2.1 ≠ (xT10 b).2.1 := by decide +kernel
theorem xy10 : ∀ k, k < 4 → parseFieldDescriptor (xT10 k).2.2.1 = some (xt10 k) := by decide +kernel
theorem xi10_ : ∀ j, j < 4 → u_lay xR10 xT10 j ∈ xTs := fun j hj => match j, hj with
  | 0, _ => xt_2 170 rfl rfl
  | 1, _ => xt_2 172 rfl rfl
  | 2, _ => xt_2 174 rfl rfl
  | 3, _ => xt_2 176 rfl rfl
  | j + 4, hj => absurd hj (by omega)
theorem xi10 : ∀ w ∈ u_ws xR10 xT10 4, w ∈ xTs := List.forall_mem_map.mpr (fun j hj => xi10_ j (List.mem_range.mp hj))
def xR11 : String := "MirrorHeirs"
def xT11 : u_T := fun k => match k with
  | 0 => ("MirrorHeirs", "hall", "LMirrorHeirs$Hall;", true)
  | 1 => ("MirrorHeirs", "images", "[LMirrorHeirs$Hall;", true)
  | 2 => ("MirrorHeirs", "tape", "[I", true)
  | 3 => ("MirrorHeirs", "refusals", "[I", true)
  | 4 => ("MirrorHeirs", "reader", "LMirrorHeirs$Reader;", true)
  | 5 => ("MirrorHeirs", "sight", "LMirrorHeirs$Sight;", true)
  | 6 => ("MirrorHeirs", "shares", "LMirrorHeirs$Shares;", true)
  | 7 => ("MirrorHeirs", "sets", "LMirrorHeirs$Sets;", true)
  | 8 => ("MirrorHeirs", "places", "LMirrorHeirs$Places;", true)
  | 9 => ("MirrorHeirs", "wind", "LMirrorHeirs$Wind;", true)
  | 10 => ("MirrorHeirs", "deeds", "LMirrorHeirs$Deeds;", true)
  | 11 => ("MirrorHeirs", "tapeLength", "I", false)
  | 12 => ("MirrorHeirs", "faultPlace", "I", false)
  | 13 => ("MirrorHeirs", "dustCount", "I", false)
  | _ => ("MirrorHeirs", "latestStatus", "I", false)
def xt11 : Nat → FieldType := fun k => match k with
  | 0 => .object "MirrorHeirs$Hall"
  | 1 => .array (.object "MirrorHeirs$Hall")
  | 2 => .array (.int)
  | 3 => .array (.int)
  | 4 => .object "MirrorHeirs$Reader"
  | 5 => .object "MirrorHeirs$Sight"
  | 6 => .object "MirrorHeirs$Shares"
  | 7 => .object "MirrorHeirs$Sets"
  | 8 => .object "MirrorHeirs$Places"
  | 9 => .object "MirrorHeirs$Wind"
  | 10 => .object "MirrorHeirs$Deeds"
  | 11 => .int
  | 12 => .int
  | 13 => .int
  | _ => .int
theorem xn11 : ∀ a, a < 15 → ∀ b, b < 15 → a ≠ b → (xT11 a).2.1 ≠ (xT11 b).2.1 := by decide +kernel
theorem xy11 : ∀ k, k < 15 → parseFieldDescriptor (xT11 k).2.2.1 = some (xt11 k) := by decide +kernel
theorem xi11_ : ∀ j, j < 15 → u_lay xR11 xT11 j ∈ xTs := fun j hj => match j, hj with
  | 0, _ => xt_2 230 rfl rfl
  | 1, _ => xt_2 232 rfl rfl
  | 2, _ => xt_2 234 rfl rfl
  | 3, _ => xt_2 236 rfl rfl
  | 4, _ => xt_2 238 rfl rfl
  | 5, _ => xt_3 0 rfl rfl
  | 6, _ => xt_3 2 rfl rfl
  | 7, _ => xt_3 4 rfl rfl
  | 8, _ => xt_3 6 rfl rfl
  | 9, _ => xt_3 8 rfl rfl
  | 10, _ => xt_3 10 rfl rfl
  | 11, _ => xt_3 12 rfl rfl
  | 12, _ => xt_3 14 rfl rfl
  | 13, _ => xt_3 16 rfl rfl
  | 14, _ => xt_3 18 rfl rfl
  | j + 15, hj => absurd hj (by omega)
theorem xi11 : ∀ w ∈ u_ws xR11 xT11 15, w ∈ xTs := List.forall_mem_map.mpr (fun j hj => xi11_ j (List.mem_range.mp hj))
def xR12 : String := "MirrorHeirsModel"
def xT12 : u_T := fun k => match k with
  | 0 => ("MirrorHeirsModel", "status", "I", false)
  | 1 => ("MirrorHeirsModel", "version", "I", false)
  | 2 => ("MirrorHeirsModel", "refused", "[I", true)
  | 3 => ("MirrorHeirsModel", "kept", "[I", true)
  | 4 => ("MirrorHeirsModel", "images", "[I", true)
  | 5 => ("MirrorHeirsModel", "ahead", "[I", true)
  | 6 => ("MirrorHeirsModel", "hasImage", "[Z", true)
  | 7 => ("MirrorHeirsModel", "undone", "[I", true)
  | 8 => ("MirrorHeirsModel", "undoneAhead", "[I", true)
  | 9 => ("MirrorHeirsModel", "undoMany", "I", false)
  | 10 => ("MirrorHeirsModel", "dust0", "I", false)
  | 11 => ("MirrorHeirsModel", "words", "[B", true)
  | 12 => ("MirrorHeirsModel", "firstWord", "I", false)
  | 13 => ("MirrorHeirsModel", "lastWord", "I", false)
  | 14 => ("MirrorHeirsModel", "isOrders", "Z", false)
  | 15 => ("MirrorHeirsModel", "tape", "[B", true)
  | 16 => ("MirrorHeirsModel", "five", "[I", true)
  | 17 => ("MirrorHeirsModel", "taped", "I", false)
  | 18 => ("MirrorHeirsModel", "fault", "I", false)
  | 19 => ("MirrorHeirsModel", "code", "[I", true)
  | 20 => ("MirrorHeirsModel", "value", "[I", true)
  | 21 => ("MirrorHeirsModel", "placed", "[I", true)
  | 22 => ("MirrorHeirsModel", "tokens", "I", false)
  | 23 => ("MirrorHeirsModel", "token", "I", false)
  | 24 => ("MirrorHeirsModel", "leaves", "I", false)
  | 25 => ("MirrorHeirsModel", "bad", "I", false)
  | 26 => ("MirrorHeirsModel", "go", "I", false)
  | 27 => ("MirrorHeirsModel", "goEnd", "I", false)
  | 28 => ("MirrorHeirsModel", "broken", "Z", false)
  | 29 => ("MirrorHeirsModel", "asked", "[I", true)
  | 30 => ("MirrorHeirsModel", "orderEstates", "[I", true)
  | 31 => ("MirrorHeirsModel", "orderSees", "[I", true)
  | 32 => ("MirrorHeirsModel", "fogged", "[Z", true)
  | 33 => ("MirrorHeirsModel", "foggedBy", "I", false)
  | 34 => ("MirrorHeirsModel", "foggedHour", "I", false)
  | 35 => ("MirrorHeirsModel", "seen", "[I", true)
  | 36 => ("MirrorHeirsModel", "open", "[I", true)
  | 37 => ("MirrorHeirsModel", "heirSees", "[I", true)
  | 38 => ("MirrorHeirsModel", "light", "[I", true)
  | 39 => ("MirrorHeirsModel", "isPaired", "[Z", true)
  | 40 => ("MirrorHeirsModel", "claims", "[I", true)
  | 41 => ("MirrorHeirsModel", "wholes", "[I", true)
  | 42 => ("MirrorHeirsModel", "estates", "[I", true)
  | 43 => ("MirrorHeirsModel", "standCell", "[I", true)
  | 44 => ("MirrorHeirsModel", "standSees", "[I", true)
  | 45 => ("MirrorHeirsModel", "firstStand", "[I", true)
  | 46 => ("MirrorHeirsModel", "standMany", "I", false)
  | 47 => ("MirrorHeirsModel", "estatesBy", "[I", true)
  | 48 => ("MirrorHeirsModel", "quarrelAt", "[I", true)
  | 49 => ("MirrorHeirsModel", "stopped0", "I", false)
  | 50 => ("MirrorHeirsModel", "orderDone", "I", false)
  | 51 => ("MirrorHeirsModel", "orderAt", "I", false)
  | 52 => ("MirrorHeirsModel", "timesOf", "I", false)
  | 53 => ("MirrorHeirsModel", "head", "I", false)
  | 54 => ("MirrorHeirsModel", "sumsAre", "Z", false)
  | 55 => ("MirrorHeirsModel", "testIs", "Z", false)
  | 56 => ("MirrorHeirsModel", "sums", "[J", true)
  | 57 => ("MirrorHeirsModel", "drawnCell", "[I", true)
  | 58 => ("MirrorHeirsModel", "drawnGone", "[I", true)
  | 59 => ("MirrorHeirsModel", "toldCell", "[I", true)
  | 60 => ("MirrorHeirsModel", "drawnMany", "I", false)
  | _ => ("MirrorHeirsModel", "latest", "I", false)
def xt12 : Nat → FieldType := fun k => match k with
  | 0 => .int
  | 1 => .int
  | 2 => .array (.int)
  | 3 => .array (.int)
  | 4 => .array (.int)
  | 5 => .array (.int)
  | 6 => .array (.boolean)
  | 7 => .array (.int)
  | 8 => .array (.int)
  | 9 => .int
  | 10 => .int
  | 11 => .array (.byte)
  | 12 => .int
  | 13 => .int
  | 14 => .boolean
  | 15 => .array (.byte)
  | 16 => .array (.int)
  | 17 => .int
  | 18 => .int
  | 19 => .array (.int)
  | 20 => .array (.int)
  | 21 => .array (.int)
  | 22 => .int
  | 23 => .int
  | 24 => .int
  | 25 => .int
  | 26 => .int
  | 27 => .int
  | 28 => .boolean
  | 29 => .array (.int)
  | 30 => .array (.int)
  | 31 => .array (.int)
  | 32 => .array (.boolean)
  | 33 => .int
  | 34 => .int
  | 35 => .array (.int)
  | 36 => .array (.int)
  | 37 => .array (.int)
  | 38 => .array (.int)
  | 39 => .array (.boolean)
  | 40 => .array (.int)
  | 41 => .array (.int)
  | 42 => .array (.int)
  | 43 => .array (.int)
  | 44 => .array (.int)
  | 45 => .array (.int)
  | 46 => .int
  | 47 => .array (.int)
  | 48 => .array (.int)
  | 49 => .int
  | 50 => .int
  | 51 => .int
  | 52 => .int
  | 53 => .int
  | 54 => .boolean
  | 55 => .boolean
  | 56 => .array (.long)
  | 57 => .array (.int)
  | 58 => .array (.int)
  | 59 => .array (.int)
  | 60 => .int
  | _ => .int
theorem xn12 : ∀ a, a < 62 → ∀ b, b < 62 → a ≠ b → (xT12 a).2.1 ≠ (xT12 b).2.1 := by decide +kernel
theorem xy12 : ∀ k, k < 62 → parseFieldDescriptor (xT12 k).2.2.1 = some (xt12 k) := by decide +kernel
theorem xi12_ : ∀ j, j < 62 → u_lay xR12 xT12 j ∈ xTs := fun j hj => match j, hj with
  | 0, _ => xt_7 24 rfl rfl
  | 1, _ => xt_7 26 rfl rfl
  | 2, _ => xt_7 28 rfl rfl
  | 3, _ => xt_7 30 rfl rfl
  | 4, _ => xt_7 32 rfl rfl
  | 5, _ => xt_7 34 rfl rfl
  | 6, _ => xt_7 36 rfl rfl
  | 7, _ => xt_7 38 rfl rfl
  | 8, _ => xt_7 40 rfl rfl
  | 9, _ => xt_7 42 rfl rfl
  | 10, _ => xt_7 44 rfl rfl
  | 11, _ => xt_7 46 rfl rfl
  | 12, _ => xt_7 48 rfl rfl
  | 13, _ => xt_7 50 rfl rfl
  | 14, _ => xt_7 52 rfl rfl
  | 15, _ => xt_7 54 rfl rfl
  | 16, _ => xt_7 56 rfl rfl
  | 17, _ => xt_7 58 rfl rfl
  | 18, _ => xt_7 60 rfl rfl
  | 19, _ => xt_7 62 rfl rfl
  | 20, _ => xt_7 64 rfl rfl
  | 21, _ => xt_7 66 rfl rfl
  | 22, _ => xt_7 68 rfl rfl
  | 23, _ => xt_7 70 rfl rfl
  | 24, _ => xt_7 72 rfl rfl
  | 25, _ => xt_7 74 rfl rfl
  | 26, _ => xt_7 76 rfl rfl
  | 27, _ => xt_7 78 rfl rfl
  | 28, _ => xt_7 80 rfl rfl
  | 29, _ => xt_7 82 rfl rfl
  | 30, _ => xt_7 84 rfl rfl
  | 31, _ => xt_7 86 rfl rfl
  | 32, _ => xt_7 88 rfl rfl
  | 33, _ => xt_7 90 rfl rfl
  | 34, _ => xt_7 92 rfl rfl
  | 35, _ => xt_7 94 rfl rfl
  | 36, _ => xt_7 96 rfl rfl
  | 37, _ => xt_7 98 rfl rfl
  | 38, _ => xt_7 100 rfl rfl
  | 39, _ => xt_7 102 rfl rfl
  | 40, _ => xt_7 104 rfl rfl
  | 41, _ => xt_7 106 rfl rfl
  | 42, _ => xt_7 108 rfl rfl
  | 43, _ => xt_7 110 rfl rfl
  | 44, _ => xt_7 112 rfl rfl
  | 45, _ => xt_7 114 rfl rfl
  | 46, _ => xt_7 116 rfl rfl
  | 47, _ => xt_7 118 rfl rfl
  | 48, _ => xt_7 120 rfl rfl
  | 49, _ => xt_7 122 rfl rfl
  | 50, _ => xt_7 124 rfl rfl
  | 51, _ => xt_7 126 rfl rfl
  | 52, _ => xt_7 128 rfl rfl
  | 53, _ => xt_7 130 rfl rfl
  | 54, _ => xt_7 132 rfl rfl
  | 55, _ => xt_7 134 rfl rfl
  | 56, _ => xt_7 136 rfl rfl
  | 57, _ => xt_7 138 rfl rfl
  | 58, _ => xt_7 140 rfl rfl
  | 59, _ => xt_7 142 rfl rfl
  | 60, _ => xt_7 144 rfl rfl
  | 61, _ => xt_7 146 rfl rfl
  | j + 62, hj => absurd hj (by omega)
theorem xi12 : ∀ w ∈ u_ws xR12 xT12 62, w ∈ xTs := List.forall_mem_map.mpr (fun j hj => xi12_ j (List.mem_range.mp hj))
def xcl : List vw_C := [(xR0, xT0, 7), (xR1, xT1, 11), (xR2, xT2, 10), (xR3, xT3, 12), (xR4, xT4, 4), (xR5, xT5, 13), (xR6, xT6, 8), (xR7, xT7, 12), (xR8, xT8, 2), (xR9, xT9, 6), (xR10, xT10, 4), (xR11, xT11, 15), (xR12, xT12, 62)]
theorem xk0 {E : ix_E} (h : ix_el E = xcl) : (ix_el E)[0]? = some (xR0, xT0, 7) := by rw [h]; rfl
theorem xk1 {E : ix_E} (h : ix_el E = xcl) : (ix_el E)[1]? = some (xR1, xT1, 11) := by rw [h]; rfl
theorem xk2 {E : ix_E} (h : ix_el E = xcl) : (ix_el E)[2]? = some (xR2, xT2, 10) := by rw [h]; rfl
theorem xk3 {E : ix_E} (h : ix_el E = xcl) : (ix_el E)[3]? = some (xR3, xT3, 12) := by rw [h]; rfl
theorem xk4 {E : ix_E} (h : ix_el E = xcl) : (ix_el E)[4]? = some (xR4, xT4, 4) := by rw [h]; rfl
theorem xk5 {E : ix_E} (h : ix_el E = xcl) : (ix_el E)[5]? = some (xR5, xT5, 13) := by rw [h]; rfl
theorem xk6 {E : ix_E} (h : ix_el E = xcl) : (ix_el E)[6]? = some (xR6, xT6, 8) := by rw [h]; rfl
theorem xk7 {E : ix_E} (h : ix_el E = xcl) : (ix_el E)[7]? = some (xR7, xT7, 12) := by rw [h]; rfl
theorem xk8 {E : ix_E} (h : ix_el E = xcl) : (ix_el E)[8]? = some (xR8, xT8, 2) := by rw [h]; rfl
theorem xk9 {E : ix_E} (h : ix_el E = xcl) : (ix_el E)[9]? = some (xR9, xT9, 6) := by rw [h]; rfl
theorem xk10 {E : ix_E} (h : ix_el E = xcl) : (ix_el E)[10]? = some (xR10, xT10, 4) := by rw [h]; rfl
theorem xk11 {E : ix_E} (h : ix_el E = xcl) : (ix_el E)[11]? = some (xR11, xT11, 15) := by rw [h]; rfl
theorem xk12 {E : ix_E} (h : ix_el E = xcl) : (ix_el E)[12]? = some (xR12, xT12, 62) := by rw [h]; rfl
theorem xgood : GoodIn xTs xTs := fun w hw => ⟨hw, good_of_word (List.mem_filter.mp hw).2⟩
def xsl : ix_Sl := [("MirrorHeirs$Reader", (108, ("fogs", 2000000))), ("MirrorHeirs$Reader", (113, ("claims", 2000001))), ("MirrorHeirs$Reader", (195, ("[", 2000002))), ("MirrorHeirs$Reader", (197, ("]", 2000003))), ("MirrorHeirs$Reader", (205, ("x", 2000004))), ("MirrorHeirs$Reader", (207, ("y", 2000005))), ("MirrorHeirs$Reader", (209, ("glance", 2000006))), ("MirrorHeirs$Reader", (214, ("hour", 2000007))), ("MirrorHeirs$Reader", (216, ("heir", 2000008))), ("MirrorHeirs$Reader", (218, ("age", 2000009))), ("MirrorHeirs$Reader", (220, ("thing", 2000010))), ("MirrorHeirs$Reader", (222, ("worth", 2000011))), ("MirrorHeirs$Reader", (224, ("high", 2000012))), ("MirrorHeirs$Reader", (226, ("lit", 2000013))), ("MirrorHeirs$Reader", (231, ("pivots", 2000014))), ("MirrorHeirs$Reader", (233, ("done", 2000015))), ("MirrorHeirs$Reader", (235, ("rent", 2000016))), ("MirrorHeirs$Reader", (237, ("estate", 2000017))), ("MirrorHeirs$Reader", (239, ("sees", 2000018))), ("MirrorHeirs$Reader", (189, ("*", 2000019))), ("MirrorHeirs$Reader", (191, ("/", 2000020))), ("MirrorHeirs$Reader", (193, ("%", 2000021))), ("MirrorHeirs$Reader", (182, ("+", 2000022))), ("MirrorHeirs$Reader", (184, ("-", 2000023))), ("MirrorHeirs$Reader", (124, ("bars", 2000024))), ("MirrorHeirs$Reader", (139, ("if", 2000025))), ("MirrorHeirs$Reader", (160, ("not", 2000026))), ("MirrorHeirs$Reader", (162, ("(", 2000027))), ("MirrorHeirs$Reader", (167, (")", 2000028))), ("MirrorHeirs$Reader", (173, ("<", 2000029))), ("MirrorHeirs$Reader", (175, (">", 2000030))), ("MirrorHeirs$Reader", (177, ("=", 2000031))), ("MirrorHeirs$Reader", (158, ("and", 2000032))), ("MirrorHeirs$Reader", (147, ("or", 2000033))), ("MirrorHeirs$Reader", (77, (";", 2000034))), ("MirrorHeirs$Reader", (126, ("turn", 2000035))), ("MirrorHeirs$Reader", (128, ("move", 2000036))), ("MirrorHeirs$Reader", (130, ("to", 2000037))), ("MirrorHeirs$Reader", (132, ("wait", 2000038))), ("MirrorHeirs$Reader", (134, ("times", 2000039)))]
def xJ : ix_J := fun y => (cond (Nat.blt y 167) (cond (Nat.blt y 84) (cond (Nat.blt y 43) (cond (Nat.blt y 22) (cond (Nat.blt y 11) (cond (Nat.blt y 5) (cond (Nat.blt y 2) (cond (Nat.blt y 1) (⟨"java/lang/String", "charAt", "(I)C"⟩, (prog_18_method_56_code, (2, ((some (.char)), (0, 0))))) (⟨"java/lang/String", "checkIndex", "(II)V"⟩, (prog_18_method_155_code, (2, (none, (0, 0)))))) (cond (Nat.blt y 3) (⟨"java/lang/String", "coder", "()B"⟩, (prog_18_method_152_code, (1, ((some (.byte)), (0, 0))))) (cond (Nat.blt y 4) (⟨"java/lang/String", "isLatin1", "()Z"⟩, (prog_18_method_154_code, (1, ((some (.boolean)), (0, 0))))) (⟨"java/lang/String", "length", "()I"⟩, (prog_18_method_54_code, (1, ((some (.int)), (0, 0)))))))) (cond (Nat.blt y 7) (cond (Nat.blt y 6) (⟨"java/lang/Long", "bitCount", "(J)I"⟩, (prog_16_method_50_code, (2, ((some (.int)), (0, 0))))) (⟨"java/lang/StringLatin1", "charAt", "([BI)C"⟩, (prog_19_method_2_code, (2, ((some (.char)), (0, 0)))))) (cond (Nat.blt y 8) (⟨"java/lang/StringUTF16", "charAt", "([BI)C"⟩, (prog_20_method_83_code, (2, ((some (.char)), (0, 0))))) (cond (Nat.blt y 10) (⟨"java/lang/StringUTF16", "checkIndex", "(I[B)V"⟩, (prog_20_method_91_code, (2, (none, (0, 0))))) (⟨"java/lang/StringUTF16", "length", "([B)I"⟩, (prog_20_method_6_code, (1, ((some (.int)), (0, 0))))))))) (cond (Nat.blt y 16) (cond (Nat.blt y 13) (cond (Nat.blt y 12) (⟨"jdk/internal/util/Preconditions", "checkIndex", "(IILjava/util/function/BiFunction;)I"⟩, (prog_22_method_11_code, (3, ((some (.int)), (0, 0))))) (⟨"java/lang/Integer", "bitCount", "(I)I"⟩, (prog_15_method_49_code, (1, ((some (.int)), (0, 0)))))) (cond (Nat.blt y 14) (⟨"java/util/Arrays", "fill", "([II)V"⟩, (prog_21_method_103_code, (4, (none, (0, 0))))) (cond (Nat.blt y 15) (⟨"java/lang/Math", "abs", "(I)I"⟩, (prog_17_method_59_code, (1, ((some (.int)), (0, 0))))) (⟨"java/lang/Math", "max", "(II)I"⟩, (prog_17_method_65_code, (2, ((some (.int)), (0, 0)))))))) (cond (Nat.blt y 19) (cond (Nat.blt y 18) (⟨"java/lang/Math", "min", "(II)I"⟩, (prog_17_method_69_code, (2, ((some (.int)), (0, 0))))) (⟨"MirrorHeirs$Deeds", "forgetAll", "()V"⟩, (prog_2_method_2_code, (1, (none, (0, 0)))))) (cond (Nat.blt y 20) (⟨"MirrorHeirs$Deeds", "<init>", "(LMirrorHeirs$Hall;LMirrorHeirs$Shares;)V"⟩, (prog_2_method_1_code, (3, (none, (23, 840))))) (cond (Nat.blt y 21) (⟨"MirrorHeirs$Deeds", "learn", "(LMirrorHeirs$Text;I)V"⟩, (prog_2_method_8_code, (5, (none, (0, 0))))) (⟨"MirrorHeirs$Deeds", "moveHeir", "(II)V"⟩, (prog_2_method_4_code, (3, (none, (0, 0)))))))))) (cond (Nat.blt y 32) (cond (Nat.blt y 27) (cond (Nat.blt y 24) (cond (Nat.blt y 23) (⟨"MirrorHeirs$Deeds", "note", "(III)V"⟩, (prog_2_method_5_code, (4, (none, (0, 0))))) (⟨"MirrorHeirs$Deeds", "perform", "(LMirrorHeirs$Text;I)Z"⟩, (prog_2_method_9_code, (7, ((some (.boolean)), (0, 0)))))) (cond (Nat.blt y 25) (⟨"MirrorHeirs$Deeds", "run", "(LMirrorHeirs$Text;)I"⟩, (prog_2_method_7_code, (6, ((some (.int)), (0, 0))))) (cond (Nat.blt y 26) (⟨"MirrorHeirs$Deeds", "takeBack", "()I"⟩, (prog_2_method_6_code, (3, ((some (.int)), (0, 0))))) (⟨"MirrorHeirs$Deeds", "turnPivot", "(I)V"⟩, (prog_2_method_3_code, (2, (none, (0, 0)))))))) (cond (Nat.blt y 29) (cond (Nat.blt y 28) (⟨"MirrorHeirs$Wind", "blow", "(II)I"⟩, (prog_12_method_2_code, (7, ((some (.int)), (0, 0))))) (⟨"MirrorHeirs$Wind", "draw", "(I)I"⟩, (prog_12_method_4_code, (2, ((some (.int)), (0, 0)))))) (cond (Nat.blt y 30) (⟨"MirrorHeirs$Wind", "drift", "(I)V"⟩, (prog_12_method_3_code, (3, (none, (0, 0))))) (cond (Nat.blt y 31) (⟨"MirrorHeirs$Wind", "<init>", "(LMirrorHeirs$Hall;LMirrorHeirs$Shares;)V"⟩, (prog_12_method_1_code, (3, (none, (2, 76))))) (⟨"MirrorHeirs", "added", "(I)I"⟩, (prog_1_method_49_code, (2, ((some (.int)), (0, 0))))))))) (cond (Nat.blt y 37) (cond (Nat.blt y 34) (cond (Nat.blt y 33) (⟨"MirrorHeirs", "addedCount", "(I)I"⟩, (prog_1_method_50_code, (2, ((some (.int)), (0, 0))))) (⟨"MirrorHeirs", "append", "(I)V"⟩, (prog_1_method_52_code, (3, (none, (0, 0)))))) (cond (Nat.blt y 35) (⟨"MirrorHeirs", "at", "(II)I"⟩, (prog_1_method_3_code, (3, ((some (.int)), (0, 0))))) (cond (Nat.blt y 36) (⟨"MirrorHeirs", "back", "(I)I"⟩, (prog_1_method_44_code, (2, ((some (.int)), (0, 0))))) (⟨"MirrorHeirs", "bent", "(II)I"⟩, (prog_1_method_64_code, (3, ((some (.int)), (0, 0)))))))) (cond (Nat.blt y 40) (cond (Nat.blt y 38) (⟨"MirrorHeirs", "candle", "(I)I"⟩, (prog_1_method_11_code, (2, ((some (.int)), (0, 0))))) (cond (Nat.blt y 39) (⟨"MirrorHeirs", "claim", "(III)I"⟩, (prog_1_method_26_code, (6, ((some (.int)), (0, 0))))) (⟨"MirrorHeirs", "count", "(I)I"⟩, (prog_1_method_45_code, (2, ((some (.int)), (0, 0))))))) (cond (Nat.blt y 41) (⟨"MirrorHeirs", "countOrPick", "(JI)I"⟩, (prog_1_method_55_code, (3, ((some (.int)), (0, 0))))) (cond (Nat.blt y 42) (⟨"MirrorHeirs", "divideNow", "()V"⟩, (prog_1_method_54_code, (1, (none, (0, 0))))) (⟨"MirrorHeirs", "draughts", "(II)I"⟩, (prog_1_method_41_code, (3, ((some (.int)), (0, 0))))))))))) (cond (Nat.blt y 63) (cond (Nat.blt y 53) (cond (Nat.blt y 48) (cond (Nat.blt y 45) (cond (Nat.blt y 44) (⟨"MirrorHeirs", "drawn", "(II)I"⟩, (prog_1_method_42_code, (3, ((some (.int)), (0, 0))))) (⟨"MirrorHeirs", "dust", "()I"⟩, (prog_1_method_16_code, (1, ((some (.int)), (0, 0)))))) (cond (Nat.blt y 46) (⟨"MirrorHeirs", "end", "(I)I"⟩, (prog_1_method_14_code, (2, ((some (.int)), (0, 0))))) (cond (Nat.blt y 47) (⟨"MirrorHeirs", "estate", "(I)I"⟩, (prog_1_method_28_code, (2, ((some (.int)), (0, 0))))) (⟨"MirrorHeirs", "fault", "()I"⟩, (prog_1_method_19_code, (1, ((some (.int)), (0, 0)))))))) (cond (Nat.blt y 50) (cond (Nat.blt y 49) (⟨"MirrorHeirs", "feed", "(IIIII)I"⟩, (prog_1_method_13_code, (6, ((some (.int)), (0, 0))))) (⟨"MirrorHeirs", "force", "(I)I"⟩, (prog_1_method_21_code, (3, ((some (.int)), (0, 0)))))) (cond (Nat.blt y 51) (⟨"MirrorHeirs", "forget", "()I"⟩, (prog_1_method_35_code, (2, ((some (.int)), (0, 0))))) (cond (Nat.blt y 52) (⟨"MirrorHeirs", "glance", "(II)I"⟩, (prog_1_method_23_code, (3, ((some (.int)), (0, 0))))) (⟨"MirrorHeirs", "granted", "(I)I"⟩, (prog_1_method_48_code, (2, ((some (.int)), (0, 0))))))))) (cond (Nat.blt y 58) (cond (Nat.blt y 55) (cond (Nat.blt y 54) (⟨"MirrorHeirs", "greatestDivisor", "(II)I"⟩, (prog_1_method_57_code, (6, ((some (.int)), (0, 0))))) (⟨"MirrorHeirs", "heir", "(II)I"⟩, (prog_1_method_7_code, (3, ((some (.int)), (0, 0)))))) (cond (Nat.blt y 56) (⟨"MirrorHeirs", "hide", "(III)I"⟩, (prog_1_method_37_code, (6, ((some (.int)), (0, 0))))) (cond (Nat.blt y 57) (⟨"MirrorHeirs", "hides", "(I)I"⟩, (prog_1_method_38_code, (2, ((some (.int)), (0, 0))))) (⟨"MirrorHeirs", "hint", "(II)I"⟩, (prog_1_method_33_code, (3, ((some (.int)), (0, 0)))))))) (cond (Nat.blt y 60) (cond (Nat.blt y 59) (⟨"MirrorHeirs", "image", "(I)I"⟩, (prog_1_method_43_code, (2, ((some (.int)), (16, 540))))) (⟨"MirrorHeirs", "<init>", "()V"⟩, (prog_1_method_1_code, (5, (none, (78, 8952)))))) (cond (Nat.blt y 61) (⟨"MirrorHeirs", "isCell", "(I)Z"⟩, (prog_1_method_59_code, (1, ((some (.boolean)), (0, 0))))) (cond (Nat.blt y 62) (⟨"MirrorHeirs", "isGlass", "(I)Z"⟩, (prog_1_method_61_code, (1, ((some (.boolean)), (0, 0))))) (⟨"MirrorHeirs", "isKind", "(I)Z"⟩, (prog_1_method_60_code, (1, ((some (.boolean)), (0, 0)))))))))) (cond (Nat.blt y 73) (cond (Nat.blt y 68) (cond (Nat.blt y 65) (cond (Nat.blt y 64) (⟨"MirrorHeirs", "isWithin", "(III)Z"⟩, (prog_1_method_58_code, (3, ((some (.boolean)), (0, 0))))) (⟨"MirrorHeirs", "law", "()I"⟩, (prog_1_method_17_code, (2, ((some (.int)), (4, 482)))))) (cond (Nat.blt y 66) (⟨"MirrorHeirs", "lit", "(I)I"⟩, (prog_1_method_29_code, (2, ((some (.int)), (0, 0))))) (cond (Nat.blt y 67) (⟨"MirrorHeirs", "move", "(II)I"⟩, (prog_1_method_8_code, (4, ((some (.int)), (0, 0))))) (⟨"MirrorHeirs", "of", "(II)I"⟩, (prog_1_method_5_code, (3, ((some (.int)), (0, 0)))))))) (cond (Nat.blt y 70) (cond (Nat.blt y 69) (⟨"MirrorHeirs", "orders", "()I"⟩, (prog_1_method_18_code, (3, ((some (.int)), (0, 0))))) (⟨"MirrorHeirs", "owner", "(II)I"⟩, (prog_1_method_27_code, (4, ((some (.int)), (0, 0)))))) (cond (Nat.blt y 71) (⟨"MirrorHeirs", "pair", "(II)I"⟩, (prog_1_method_25_code, (3, ((some (.int)), (0, 0))))) (cond (Nat.blt y 72) (⟨"MirrorHeirs", "peace", "(I)I"⟩, (prog_1_method_39_code, (2, ((some (.int)), (0, 0))))) (⟨"MirrorHeirs", "pick", "(JI)I"⟩, (prog_1_method_56_code, (5, ((some (.int)), (0, 0))))))))) (cond (Nat.blt y 78) (cond (Nat.blt y 75) (cond (Nat.blt y 74) (⟨"MirrorHeirs", "pivot", "(III)I"⟩, (prog_1_method_4_code, (4, ((some (.int)), (0, 0))))) (⟨"MirrorHeirs", "put", "(II)I"⟩, (prog_1_method_2_code, (4, ((some (.int)), (0, 0)))))) (cond (Nat.blt y 76) (⟨"MirrorHeirs", "quarrel", "(I)I"⟩, (prog_1_method_40_code, (3, ((some (.int)), (0, 0))))) (cond (Nat.blt y 77) (⟨"MirrorHeirs", "ray", "(III)I"⟩, (prog_1_method_22_code, (4, ((some (.int)), (0, 0))))) (⟨"MirrorHeirs", "refusalsBy", "(I)I"⟩, (prog_1_method_51_code, (3, ((some (.int)), (0, 0)))))))) (cond (Nat.blt y 81) (cond (Nat.blt y 79) (⟨"MirrorHeirs", "refused", "(I)I"⟩, (prog_1_method_47_code, (3, ((some (.int)), (0, 0))))) (cond (Nat.blt y 80) (⟨"MirrorHeirs", "reveal", "(IIII)I"⟩, (prog_1_method_36_code, (6, ((some (.int)), (0, 0))))) (⟨"MirrorHeirs", "row", "()I"⟩, (prog_1_method_15_code, (6, ((some (.int)), (0, 0))))))) (cond (Nat.blt y 82) (⟨"MirrorHeirs", "sees", "(II)Z"⟩, (prog_1_method_53_code, (3, ((some (.boolean)), (0, 0))))) (cond (Nat.blt y 83) (⟨"MirrorHeirs", "stand", "(II)I"⟩, (prog_1_method_30_code, (3, ((some (.int)), (0, 0))))) (⟨"MirrorHeirs", "status", "()I"⟩, (prog_1_method_46_code, (1, ((some (.int)), (0, 0)))))))))))) (cond (Nat.blt y 125) (cond (Nat.blt y 104) (cond (Nat.blt y 94) (cond (Nat.blt y 89) (cond (Nat.blt y 86) (cond (Nat.blt y 85) (⟨"MirrorHeirs", "step", "(II)I"⟩, (prog_1_method_63_code, (2, ((some (.int)), (0, 0))))) (⟨"MirrorHeirs", "stopped", "()I"⟩, (prog_1_method_20_code, (1, ((some (.int)), (0, 0)))))) (cond (Nat.blt y 87) (⟨"MirrorHeirs", "stranger", "(I)I"⟩, (prog_1_method_34_code, (2, ((some (.int)), (0, 0))))) (cond (Nat.blt y 88) (⟨"MirrorHeirs", "telling", "(III)I"⟩, (prog_1_method_31_code, (4, ((some (.int)), (0, 0))))) (⟨"MirrorHeirs", "terms", "(II)I"⟩, (prog_1_method_12_code, (4, ((some (.int)), (0, 0)))))))) (cond (Nat.blt y 91) (cond (Nat.blt y 90) (⟨"MirrorHeirs", "thing", "(III)I"⟩, (prog_1_method_10_code, (4, ((some (.int)), (0, 0))))) (⟨"MirrorHeirs", "turn", "(I)I"⟩, (prog_1_method_6_code, (2, ((some (.int)), (0, 0)))))) (cond (Nat.blt y 92) (⟨"MirrorHeirs", "turned", "(I)I"⟩, (prog_1_method_32_code, (2, ((some (.int)), (0, 0))))) (cond (Nat.blt y 93) (⟨"MirrorHeirs", "turnedKind", "(I)I"⟩, (prog_1_method_62_code, (1, ((some (.int)), (0, 0))))) (⟨"MirrorHeirs", "undo", "()I"⟩, (prog_1_method_9_code, (2, ((some (.int)), (0, 0))))))))) (cond (Nat.blt y 99) (cond (Nat.blt y 96) (cond (Nat.blt y 95) (⟨"MirrorHeirs", "views", "(I)I"⟩, (prog_1_method_24_code, (2, ((some (.int)), (0, 0))))) (⟨"MirrorHeirsModel", "arePaired", "(II)Z"⟩, (prog_14_method_89_code, (3, ((some (.boolean)), (0, 0)))))) (cond (Nat.blt y 97) (⟨"MirrorHeirsModel", "areSo", "()Z"⟩, (prog_14_method_103_code, (2, ((some (.boolean)), (0, 0))))) (cond (Nat.blt y 98) (⟨"MirrorHeirsModel", "at", "(II)I"⟩, (prog_14_method_20_code, (3, ((some (.int)), (0, 0))))) (⟨"MirrorHeirsModel", "back", "(I)I"⟩, (prog_14_method_8_code, (3, ((some (.int)), (0, 0)))))))) (cond (Nat.blt y 101) (cond (Nat.blt y 100) (⟨"MirrorHeirsModel", "behind", "(II)I"⟩, (prog_14_method_80_code, (2, ((some (.int)), (0, 0))))) (⟨"MirrorHeirsModel", "beside", "(II)I"⟩, (prog_14_method_78_code, (4, ((some (.int)), (0, 0)))))) (cond (Nat.blt y 102) (⟨"MirrorHeirsModel", "bothOf", "(Z)Z"⟩, (prog_14_method_73_code, (4, ((some (.boolean)), (0, 0))))) (cond (Nat.blt y 103) (⟨"MirrorHeirsModel", "bounded", "(JZ)J"⟩, (prog_14_method_68_code, (4, ((some (.long)), (0, 0))))) (⟨"MirrorHeirsModel", "candle", "(I)I"⟩, (prog_14_method_34_code, (3, ((some (.int)), (0, 0)))))))))) (cond (Nat.blt y 114) (cond (Nat.blt y 109) (cond (Nat.blt y 106) (cond (Nat.blt y 105) (⟨"MirrorHeirsModel", "claim", "(III)I"⟩, (prog_14_method_94_code, (6, ((some (.int)), (0, 0))))) (⟨"MirrorHeirsModel", "claimOf", "(II)I"⟩, (prog_14_method_91_code, (4, ((some (.int)), (0, 0)))))) (cond (Nat.blt y 107) (⟨"MirrorHeirsModel", "codeAt", "(I)I"⟩, (prog_14_method_66_code, (2, ((some (.int)), (0, 0))))) (cond (Nat.blt y 108) (⟨"MirrorHeirsModel", "common", "(II)I"⟩, (prog_14_method_93_code, (5, ((some (.int)), (0, 0))))) (⟨"MirrorHeirsModel", "count", "(I)I"⟩, (prog_14_method_126_code, (2, ((some (.int)), (0, 0)))))))) (cond (Nat.blt y 111) (cond (Nat.blt y 110) (⟨"MirrorHeirsModel", "draughts", "(II)I"⟩, (prog_14_method_124_code, (8, ((some (.int)), (0, 0))))) (⟨"MirrorHeirsModel", "drawn", "(II)I"⟩, (prog_14_method_125_code, (3, ((some (.int)), (0, 0)))))) (cond (Nat.blt y 112) (⟨"MirrorHeirsModel", "draws", "(I)I"⟩, (prog_14_method_123_code, (2, ((some (.int)), (0, 0))))) (cond (Nat.blt y 113) (⟨"MirrorHeirsModel", "dust", "()I"⟩, (prog_14_method_37_code, (1, ((some (.int)), (0, 0))))) (⟨"MirrorHeirsModel", "end", "(I)I"⟩, (prog_14_method_39_code, (2, ((some (.int)), (0, 0))))))))) (cond (Nat.blt y 119) (cond (Nat.blt y 116) (cond (Nat.blt y 115) (⟨"MirrorHeirsModel", "estate", "(I)I"⟩, (prog_14_method_96_code, (2, ((some (.int)), (0, 0))))) (⟨"MirrorHeirsModel", "fault", "()I"⟩, (prog_14_method_64_code, (1, ((some (.int)), (0, 0)))))) (cond (Nat.blt y 117) (⟨"MirrorHeirsModel", "faults", "()V"⟩, (prog_14_method_45_code, (1, (none, (0, 0))))) (cond (Nat.blt y 118) (⟨"MirrorHeirsModel", "feed", "(IIIII)I"⟩, (prog_14_method_38_code, (7, ((some (.int)), (0, 0))))) (⟨"MirrorHeirsModel", "fine", "()Z"⟩, (prog_14_method_44_code, (1, ((some (.boolean)), (0, 0)))))))) (cond (Nat.blt y 122) (cond (Nat.blt y 120) (⟨"MirrorHeirsModel", "firstAt", "(IIII)I"⟩, (prog_14_method_13_code, (6, ((some (.int)), (0, 0))))) (cond (Nat.blt y 121) (⟨"MirrorHeirsModel", "force", "(I)I"⟩, (prog_14_method_65_code, (3, ((some (.int)), (0, 0))))) (⟨"MirrorHeirsModel", "forget", "()I"⟩, (prog_14_method_107_code, (2, ((some (.int)), (0, 0))))))) (cond (Nat.blt y 123) (⟨"MirrorHeirsModel", "glance", "(II)I"⟩, (prog_14_method_85_code, (3, ((some (.int)), (0, 0))))) (cond (Nat.blt y 124) (⟨"MirrorHeirsModel", "glanceOf", "(II)I"⟩, (prog_14_method_108_code, (3, ((some (.int)), (0, 0))))) (⟨"MirrorHeirsModel", "goesAlong", "(Z)V"⟩, (prog_14_method_119_code, (4, (none, (0, 0))))))))))) (cond (Nat.blt y 146) (cond (Nat.blt y 135) (cond (Nat.blt y 130) (cond (Nat.blt y 127) (cond (Nat.blt y 126) (⟨"MirrorHeirsModel", "goesOn", "(I)I"⟩, (prog_14_method_83_code, (8, ((some (.int)), (0, 0))))) (⟨"MirrorHeirsModel", "good", "(I)I"⟩, (prog_14_method_3_code, (2, ((some (.int)), (0, 0)))))) (cond (Nat.blt y 128) (⟨"MirrorHeirsModel", "heir", "(II)I"⟩, (prog_14_method_27_code, (4, ((some (.int)), (0, 0))))) (cond (Nat.blt y 129) (⟨"MirrorHeirsModel", "heirAt", "(I)I"⟩, (prog_14_method_15_code, (2, ((some (.int)), (0, 0))))) (⟨"MirrorHeirsModel", "hide", "(III)I"⟩, (prog_14_method_110_code, (7, ((some (.int)), (0, 0)))))))) (cond (Nat.blt y 132) (cond (Nat.blt y 131) (⟨"MirrorHeirsModel", "hides", "(I)I"⟩, (prog_14_method_111_code, (7, ((some (.int)), (0, 0))))) (⟨"MirrorHeirsModel", "hint", "(II)I"⟩, (prog_14_method_105_code, (4, ((some (.int)), (0, 0)))))) (cond (Nat.blt y 133) (⟨"MirrorHeirsModel", "image", "(I)I"⟩, (prog_14_method_7_code, (3, ((some (.int)), (0, 0))))) (cond (Nat.blt y 134) (⟨"MirrorHeirsModel", "<init>", "()V"⟩, (prog_14_method_6_code, (1, (none, (34, 29597))))) (⟨"MirrorHeirsModel", "isCell", "(I)Z"⟩, (prog_14_method_9_code, (1, ((some (.boolean)), (0, 0))))))))) (cond (Nat.blt y 140) (cond (Nat.blt y 137) (cond (Nat.blt y 136) (⟨"MirrorHeirsModel", "isDigit", "(I)Z"⟩, (prog_14_method_41_code, (1, ((some (.boolean)), (0, 0))))) (⟨"MirrorHeirsModel", "isEnd", "(II)Z"⟩, (prog_14_method_81_code, (3, ((some (.boolean)), (0, 0)))))) (cond (Nat.blt y 138) (⟨"MirrorHeirsModel", "isGlass", "(I)Z"⟩, (prog_14_method_21_code, (1, ((some (.boolean)), (0, 0))))) (cond (Nat.blt y 139) (⟨"MirrorHeirsModel", "isHeir", "(I)Z"⟩, (prog_14_method_11_code, (2, ((some (.boolean)), (0, 0))))) (⟨"MirrorHeirsModel", "isIn", "(II)Z"⟩, (prog_14_method_4_code, (2, ((some (.boolean)), (0, 0)))))))) (cond (Nat.blt y 143) (cond (Nat.blt y 141) (⟨"MirrorHeirsModel", "isPivot", "(I)Z"⟩, (prog_14_method_10_code, (2, ((some (.boolean)), (0, 0))))) (cond (Nat.blt y 142) (⟨"MirrorHeirsModel", "isSmall", "(I)Z"⟩, (prog_14_method_40_code, (1, ((some (.boolean)), (0, 0))))) (⟨"MirrorHeirsModel", "isThing", "(I)Z"⟩, (prog_14_method_12_code, (2, ((some (.boolean)), (0, 0))))))) (cond (Nat.blt y 144) (⟨"MirrorHeirsModel", "keeps", "(III)V"⟩, (prog_14_method_29_code, (5, (none, (0, 0))))) (cond (Nat.blt y 145) (⟨"MirrorHeirsModel", "law", "()I"⟩, (prog_14_method_63_code, (1, ((some (.int)), (0, 0))))) (⟨"MirrorHeirsModel", "lays", "(I)V"⟩, (prog_14_method_62_code, (3, (none, (0, 0)))))))))) (cond (Nat.blt y 156) (cond (Nat.blt y 151) (cond (Nat.blt y 148) (cond (Nat.blt y 147) (⟨"MirrorHeirsModel", "laysEstates", "()V"⟩, (prog_14_method_112_code, (3, (none, (0, 0))))) (⟨"MirrorHeirsModel", "laysFog", "()V"⟩, (prog_14_method_77_code, (4, (none, (0, 0)))))) (cond (Nat.blt y 149) (⟨"MirrorHeirsModel", "leaf", "()V"⟩, (prog_14_method_48_code, (1, (none, (0, 0))))) (cond (Nat.blt y 150) (⟨"MirrorHeirsModel", "lieIn", "(JII)Z"⟩, (prog_14_method_121_code, (4, ((some (.boolean)), (0, 0))))) (⟨"MirrorHeirsModel", "lies", "(III)Z"⟩, (prog_14_method_1_code, (3, ((some (.boolean)), (0, 0)))))))) (cond (Nat.blt y 153) (cond (Nat.blt y 152) (⟨"MirrorHeirsModel", "lights", "()V"⟩, (prog_14_method_88_code, (3, (none, (0, 0))))) (⟨"MirrorHeirsModel", "lit", "(I)I"⟩, (prog_14_method_98_code, (3, ((some (.int)), (0, 0)))))) (cond (Nat.blt y 154) (⟨"MirrorHeirsModel", "looks", "()V"⟩, (prog_14_method_90_code, (4, (none, (0, 0))))) (cond (Nat.blt y 155) (⟨"MirrorHeirsModel", "looksFrom", "(I)V"⟩, (prog_14_method_82_code, (4, (none, (0, 0))))) (⟨"MirrorHeirsModel", "mayBe", "(II)Z"⟩, (prog_14_method_18_code, (3, ((some (.boolean)), (0, 0))))))))) (cond (Nat.blt y 161) (cond (Nat.blt y 158) (cond (Nat.blt y 157) (⟨"MirrorHeirsModel", "move", "(II)I"⟩, (prog_14_method_28_code, (4, ((some (.int)), (0, 0))))) (⟨"MirrorHeirsModel", "movesKept", "(II)V"⟩, (prog_14_method_31_code, (3, (none, (0, 0)))))) (cond (Nat.blt y 159) (⟨"MirrorHeirsModel", "must", "(I)V"⟩, (prog_14_method_47_code, (2, (none, (0, 0))))) (cond (Nat.blt y 160) (⟨"MirrorHeirsModel", "mustNumber", "(II)V"⟩, (prog_14_method_50_code, (3, (none, (0, 0))))) (⟨"MirrorHeirsModel", "obeys", "()Z"⟩, (prog_14_method_122_code, (1, ((some (.boolean)), (0, 0)))))))) (cond (Nat.blt y 164) (cond (Nat.blt y 162) (⟨"MirrorHeirsModel", "of", "(II)I"⟩, (prog_14_method_23_code, (3, ((some (.int)), (0, 0))))) (cond (Nat.blt y 163) (⟨"MirrorHeirsModel", "ones", "(I)I"⟩, (prog_14_method_5_code, (3, ((some (.int)), (0, 0))))) (⟨"MirrorHeirsModel", "orders", "()I"⟩, (prog_14_method_117_code, (5, ((some (.int)), (0, 0))))))) (cond (Nat.blt y 165) (⟨"MirrorHeirsModel", "otherKind", "(I)I"⟩, (prog_14_method_24_code, (1, ((some (.int)), (0, 0))))) (cond (Nat.blt y 166) (⟨"MirrorHeirsModel", "owner", "(II)I"⟩, (prog_14_method_95_code, (6, ((some (.int)), (0, 0))))) (⟨"MirrorHeirsModel", "pair", "(II)I"⟩, (prog_14_method_92_code, (3, ((some (.int)), (0, 0))))))))))))) (cond (Nat.blt y 249) (cond (Nat.blt y 208) (cond (Nat.blt y 187) (cond (Nat.blt y 177) (cond (Nat.blt y 172) (cond (Nat.blt y 169) (cond (Nat.blt y 168) (⟨"MirrorHeirsModel", "partOf", "(Z)J"⟩, (prog_14_method_71_code, (5, ((some (.long)), (0, 0))))) (⟨"MirrorHeirsModel", "passes0", "(I)Z"⟩, (prog_14_method_67_code, (3, ((some (.boolean)), (0, 0)))))) (cond (Nat.blt y 170) (⟨"MirrorHeirsModel", "peace", "(I)I"⟩, (prog_14_method_114_code, (7, ((some (.int)), (0, 0))))) (cond (Nat.blt y 171) (⟨"MirrorHeirsModel", "pivot", "(III)I"⟩, (prog_14_method_22_code, (5, ((some (.int)), (0, 0))))) (⟨"MirrorHeirsModel", "pivotAt", "(I)I"⟩, (prog_14_method_14_code, (2, ((some (.int)), (0, 0)))))))) (cond (Nat.blt y 174) (cond (Nat.blt y 173) (⟨"MirrorHeirsModel", "plainOf", "(Z)Z"⟩, (prog_14_method_74_code, (3, ((some (.boolean)), (0, 0))))) (⟨"MirrorHeirsModel", "positiveOf", "(Z)Z"⟩, (prog_14_method_75_code, (7, ((some (.boolean)), (0, 0)))))) (cond (Nat.blt y 175) (⟨"MirrorHeirsModel", "put", "(II)I"⟩, (prog_14_method_19_code, (4, ((some (.int)), (0, 0))))) (cond (Nat.blt y 176) (⟨"MirrorHeirsModel", "quarrel", "(I)I"⟩, (prog_14_method_115_code, (9, ((some (.int)), (0, 0))))) (⟨"MirrorHeirsModel", "ray", "(III)I"⟩, (prog_14_method_84_code, (9, ((some (.int)), (0, 0))))))))) (cond (Nat.blt y 182) (cond (Nat.blt y 179) (cond (Nat.blt y 178) (⟨"MirrorHeirsModel", "readBoth", "(I)V"⟩, (prog_14_method_55_code, (2, (none, (0, 0))))) (⟨"MirrorHeirsModel", "readClause", "()V"⟩, (prog_14_method_51_code, (1, (none, (0, 0)))))) (cond (Nat.blt y 180) (⟨"MirrorHeirsModel", "readOne", "()V"⟩, (prog_14_method_53_code, (1, (none, (0, 0))))) (cond (Nat.blt y 181) (⟨"MirrorHeirsModel", "readOrder", "()V"⟩, (prog_14_method_52_code, (1, (none, (0, 0))))) (⟨"MirrorHeirsModel", "readPart", "(I)V"⟩, (prog_14_method_59_code, (3, (none, (0, 0)))))))) (cond (Nat.blt y 184) (cond (Nat.blt y 183) (⟨"MirrorHeirsModel", "readPlain", "(I)V"⟩, (prog_14_method_56_code, (4, (none, (0, 0))))) (⟨"MirrorHeirsModel", "readSum", "(I)V"⟩, (prog_14_method_57_code, (2, (none, (0, 0)))))) (cond (Nat.blt y 185) (⟨"MirrorHeirsModel", "readTerm", "(I)V"⟩, (prog_14_method_58_code, (2, (none, (0, 0))))) (cond (Nat.blt y 186) (⟨"MirrorHeirsModel", "readTest", "(I)V"⟩, (prog_14_method_54_code, (2, (none, (0, 0))))) (⟨"MirrorHeirsModel", "reads", "()Z"⟩, (prog_14_method_60_code, (2, ((some (.boolean)), (0, 0)))))))))) (cond (Nat.blt y 197) (cond (Nat.blt y 192) (cond (Nat.blt y 189) (cond (Nat.blt y 188) (⟨"MirrorHeirsModel", "readsAs", "(Z)Z"⟩, (prog_14_method_61_code, (2, ((some (.boolean)), (0, 0))))) (⟨"MirrorHeirsModel", "refuses", "(I)I"⟩, (prog_14_method_2_code, (2, ((some (.int)), (0, 0)))))) (cond (Nat.blt y 190) (⟨"MirrorHeirsModel", "rentNow", "()I"⟩, (prog_14_method_97_code, (3, ((some (.int)), (0, 0))))) (cond (Nat.blt y 191) (⟨"MirrorHeirsModel", "reveal", "(IIII)I"⟩, (prog_14_method_109_code, (11, ((some (.int)), (0, 0))))) (⟨"MirrorHeirsModel", "rises", "(I)Z"⟩, (prog_14_method_79_code, (1, ((some (.boolean)), (0, 0)))))))) (cond (Nat.blt y 194) (cond (Nat.blt y 193) (⟨"MirrorHeirsModel", "row", "()I"⟩, (prog_14_method_36_code, (5, ((some (.int)), (0, 0))))) (⟨"MirrorHeirsModel", "runs", "(I)Z"⟩, (prog_14_method_120_code, (5, ((some (.boolean)), (0, 0)))))) (cond (Nat.blt y 195) (⟨"MirrorHeirsModel", "setsOrder", "(I)V"⟩, (prog_14_method_118_code, (4, (none, (0, 0))))) (cond (Nat.blt y 196) (⟨"MirrorHeirsModel", "sign", "(C)I"⟩, (prog_14_method_49_code, (1, ((some (.int)), (0, 0))))) (⟨"MirrorHeirsModel", "splits", "(I)V"⟩, (prog_14_method_43_code, (6, (none, (0, 0))))))))) (cond (Nat.blt y 202) (cond (Nat.blt y 199) (cond (Nat.blt y 198) (⟨"MirrorHeirsModel", "stand", "(II)I"⟩, (prog_14_method_99_code, (4, ((some (.int)), (0, 0))))) (⟨"MirrorHeirsModel", "standsBy", "(I)I"⟩, (prog_14_method_100_code, (10, ((some (.int)), (0, 0)))))) (cond (Nat.blt y 200) (⟨"MirrorHeirsModel", "status", "()I"⟩, (prog_14_method_127_code, (1, ((some (.int)), (0, 0))))) (cond (Nat.blt y 201) (⟨"MirrorHeirsModel", "stopped", "()I"⟩, (prog_14_method_116_code, (1, ((some (.int)), (0, 0))))) (⟨"MirrorHeirsModel", "stranger", "(I)I"⟩, (prog_14_method_106_code, (6, ((some (.int)), (0, 0)))))))) (cond (Nat.blt y 205) (cond (Nat.blt y 203) (⟨"MirrorHeirsModel", "sumOf", "(Z)J"⟩, (prog_14_method_69_code, (7, ((some (.long)), (0, 0))))) (cond (Nat.blt y 204) (⟨"MirrorHeirsModel", "takes0", "(I)Z"⟩, (prog_14_method_46_code, (3, ((some (.boolean)), (0, 0))))) (⟨"MirrorHeirsModel", "takesKind", "(II)V"⟩, (prog_14_method_17_code, (5, (none, (0, 0))))))) (cond (Nat.blt y 206) (⟨"MirrorHeirsModel", "telling", "(III)I"⟩, (prog_14_method_101_code, (5, ((some (.int)), (0, 0))))) (cond (Nat.blt y 207) (⟨"MirrorHeirsModel", "termOf", "(Z)J"⟩, (prog_14_method_70_code, (7, ((some (.long)), (0, 0))))) (⟨"MirrorHeirsModel", "terms", "(II)I"⟩, (prog_14_method_35_code, (4, ((some (.int)), (0, 0))))))))))) (cond (Nat.blt y 228) (cond (Nat.blt y 218) (cond (Nat.blt y 213) (cond (Nat.blt y 210) (cond (Nat.blt y 209) (⟨"MirrorHeirsModel", "testOf", "(Z)Z"⟩, (prog_14_method_72_code, (4, ((some (.boolean)), (0, 0))))) (⟨"MirrorHeirsModel", "thing", "(III)I"⟩, (prog_14_method_33_code, (5, ((some (.int)), (0, 0)))))) (cond (Nat.blt y 211) (⟨"MirrorHeirsModel", "thingAt", "(I)I"⟩, (prog_14_method_16_code, (2, ((some (.int)), (0, 0))))) (cond (Nat.blt y 212) (⟨"MirrorHeirsModel", "told", "(III)I"⟩, (prog_14_method_76_code, (11, ((some (.int)), (0, 0))))) (⟨"MirrorHeirsModel", "turn", "(I)I"⟩, (prog_14_method_26_code, (2, ((some (.int)), (0, 0)))))))) (cond (Nat.blt y 215) (cond (Nat.blt y 214) (⟨"MirrorHeirsModel", "turned", "(I)I"⟩, (prog_14_method_104_code, (6, ((some (.int)), (0, 0))))) (⟨"MirrorHeirsModel", "turns", "(I)V"⟩, (prog_14_method_25_code, (2, (none, (0, 0)))))) (cond (Nat.blt y 216) (⟨"MirrorHeirsModel", "turnsKept", "(I)V"⟩, (prog_14_method_30_code, (2, (none, (0, 0))))) (cond (Nat.blt y 217) (⟨"MirrorHeirsModel", "turnsSet", "(I)V"⟩, (prog_14_method_102_code, (3, (none, (0, 0))))) (⟨"MirrorHeirsModel", "turnsThen", "(II)I"⟩, (prog_14_method_113_code, (7, ((some (.int)), (0, 0))))))))) (cond (Nat.blt y 223) (cond (Nat.blt y 220) (cond (Nat.blt y 219) (⟨"MirrorHeirsModel", "undo", "()I"⟩, (prog_14_method_32_code, (3, ((some (.int)), (0, 0))))) (⟨"MirrorHeirsModel", "views", "(I)I"⟩, (prog_14_method_87_code, (2, ((some (.int)), (0, 0)))))) (cond (Nat.blt y 221) (⟨"MirrorHeirsModel", "viewsFrom", "(I)I"⟩, (prog_14_method_86_code, (4, ((some (.int)), (0, 0))))) (cond (Nat.blt y 222) (⟨"MirrorHeirsModel", "wordOf", "(II)I"⟩, (prog_14_method_42_code, (8, ((some (.int)), (0, 0))))) (⟨"MirrorHeirs$Hall", "addLaw", "(LMirrorHeirs$Text;)I"⟩, (prog_3_method_10_code, (2, ((some (.int)), (0, 0)))))))) (cond (Nat.blt y 225) (cond (Nat.blt y 224) (⟨"MirrorHeirs$Hall", "copy", "(LMirrorHeirs$Hall;)V"⟩, (prog_3_method_12_code, (3, (none, (0, 0))))) (⟨"MirrorHeirs$Hall", "flip", "(I)V"⟩, (prog_3_method_6_code, (3, (none, (0, 0)))))) (cond (Nat.blt y 226) (⟨"MirrorHeirs$Hall", "flipAll", "(I)V"⟩, (prog_3_method_7_code, (3, (none, (0, 0))))) (cond (Nat.blt y 227) (⟨"MirrorHeirs$Hall", "<init>", "()V"⟩, (prog_3_method_1_code, (1, (none, (15, 529))))) (⟨"MirrorHeirs$Hall", "kindAt", "(I)I"⟩, (prog_3_method_2_code, (2, ((some (.int)), (0, 0)))))))))) (cond (Nat.blt y 238) (cond (Nat.blt y 233) (cond (Nat.blt y 230) (cond (Nat.blt y 229) (⟨"MirrorHeirs$Hall", "lawInForce", "()LMirrorHeirs$Text;"⟩, (prog_3_method_11_code, (1, ((some (.object "MirrorHeirs$Text")), (0, 0))))) (⟨"MirrorHeirs$Hall", "lay", "(II)V"⟩, (prog_3_method_5_code, (3, (none, (0, 0)))))) (cond (Nat.blt y 231) (⟨"MirrorHeirs$Hall", "mayLay", "(II)Z"⟩, (prog_3_method_4_code, (3, ((some (.boolean)), (0, 0))))) (cond (Nat.blt y 232) (⟨"MirrorHeirs$Hall", "setKind", "(II)V"⟩, (prog_3_method_3_code, (3, (none, (0, 0))))) (⟨"MirrorHeirs$Hall", "setTerm", "(II)V"⟩, (prog_3_method_9_code, (3, (none, (0, 0)))))))) (cond (Nat.blt y 235) (cond (Nat.blt y 234) (⟨"MirrorHeirs$Hall", "term", "(I)I"⟩, (prog_3_method_8_code, (2, ((some (.int)), (0, 0))))) (⟨"MirrorHeirs$Places", "cover", "(IIJJ)V"⟩, (prog_4_method_4_code, (10, (none, (0, 0)))))) (cond (Nat.blt y 236) (⟨"MirrorHeirs$Places", "coverAll", "(I)V"⟩, (prog_4_method_2_code, (3, (none, (0, 0))))) (cond (Nat.blt y 237) (⟨"MirrorHeirs$Places", "firstCell", "(I)I"⟩, (prog_4_method_6_code, (2, ((some (.int)), (0, 0))))) (⟨"MirrorHeirs$Places", "group", "(II)V"⟩, (prog_4_method_3_code, (4, (none, (0, 0))))))))) (cond (Nat.blt y 243) (cond (Nat.blt y 240) (cond (Nat.blt y 239) (⟨"MirrorHeirs$Places", "hidingCells", "(II)J"⟩, (prog_4_method_8_code, (8, ((some (.long)), (0, 0))))) (⟨"MirrorHeirs$Places", "<init>", "(LMirrorHeirs$Hall;LMirrorHeirs$Sight;)V"⟩, (prog_4_method_1_code, (3, (none, (3, 192)))))) (cond (Nat.blt y 241) (⟨"MirrorHeirs$Places", "pairsBehind", "(I)I"⟩, (prog_4_method_9_code, (6, ((some (.int)), (0, 0))))) (cond (Nat.blt y 242) (⟨"MirrorHeirs$Places", "rest", "(IJJ)V"⟩, (prog_4_method_5_code, (15, (none, (0, 0))))) (⟨"MirrorHeirs$Places", "strangerCells", "()J"⟩, (prog_4_method_7_code, (6, ((some (.long)), (0, 0)))))))) (cond (Nat.blt y 246) (cond (Nat.blt y 244) (⟨"MirrorHeirs$Reader", "advance", "()V"⟩, (prog_5_method_23_code, (3, (none, (0, 0))))) (cond (Nat.blt y 245) (⟨"MirrorHeirs$Reader", "begin", "(IZ)V"⟩, (prog_5_method_4_code, (3, (none, (0, 0))))) (⟨"MirrorHeirs$Reader", "both", "()V"⟩, (prog_5_method_11_code, (3, (none, (0, 0))))))) (cond (Nat.blt y 247) (⟨"MirrorHeirs$Reader", "byteAt", "(I)I"⟩, (prog_5_method_24_code, (2, ((some (.int)), (0, 0))))) (cond (Nat.blt y 248) (⟨"MirrorHeirs$Reader", "clause", "(I)V"⟩, (prog_5_method_7_code, (2, (none, (0, 0))))) (⟨"MirrorHeirs$Reader", "closes", "(Ljava/lang/String;)V"⟩, (prog_5_method_20_code, (2, (none, (0, 0)))))))))))) (cond (Nat.blt y 290) (cond (Nat.blt y 269) (cond (Nat.blt y 259) (cond (Nat.blt y 254) (cond (Nat.blt y 251) (cond (Nat.blt y 250) (⟨"MirrorHeirs$Reader", "condition", "(I)V"⟩, (prog_5_method_9_code, (2, (none, (0, 0))))) (⟨"MirrorHeirs$Reader", "fail", "()I"⟩, (prog_5_method_6_code, (1, ((some (.int)), (0, 0)))))) (cond (Nat.blt y 252) (⟨"MirrorHeirs$Reader", "finish", "()I"⟩, (prog_5_method_5_code, (1, ((some (.int)), (0, 0))))) (cond (Nat.blt y 253) (⟨"MirrorHeirs$Reader", "<init>", "([I)V"⟩, (prog_5_method_1_code, (2, (none, (4, 482))))) (⟨"MirrorHeirs$Reader", "is", "(Ljava/lang/String;)Z"⟩, (prog_5_method_22_code, (3, ((some (.boolean)), (0, 0)))))))) (cond (Nat.blt y 256) (cond (Nat.blt y 255) (⟨"MirrorHeirs$Reader", "isDigit", "(I)Z"⟩, (prog_5_method_26_code, (1, ((some (.boolean)), (0, 0))))) (⟨"MirrorHeirs$Reader", "isLetter", "(I)Z"⟩, (prog_5_method_25_code, (1, ((some (.boolean)), (0, 0)))))) (cond (Nat.blt y 257) (⟨"MirrorHeirs$Reader", "lawWord", "()I"⟩, (prog_5_method_16_code, (1, ((some (.int)), (0, 0))))) (cond (Nat.blt y 258) (⟨"MirrorHeirs$Reader", "opens", "(Ljava/lang/String;)Z"⟩, (prog_5_method_19_code, (2, ((some (.boolean)), (0, 0))))) (⟨"MirrorHeirs$Reader", "order", "(I)V"⟩, (prog_5_method_8_code, (2, (none, (0, 0))))))))) (cond (Nat.blt y 264) (cond (Nat.blt y 261) (cond (Nat.blt y 260) (⟨"MirrorHeirs$Reader", "orderWord", "()I"⟩, (prog_5_method_17_code, (2, ((some (.int)), (0, 0))))) (⟨"MirrorHeirs$Reader", "part", "()V"⟩, (prog_5_method_15_code, (4, (none, (0, 0)))))) (cond (Nat.blt y 262) (⟨"MirrorHeirs$Reader", "plain", "()V"⟩, (prog_5_method_12_code, (3, (none, (0, 0))))) (cond (Nat.blt y 263) (⟨"MirrorHeirs$Reader", "readLaw", "(I)I"⟩, (prog_5_method_2_code, (3, ((some (.int)), (0, 0))))) (⟨"MirrorHeirs$Reader", "readOrders", "(I)I"⟩, (prog_5_method_3_code, (3, ((some (.int)), (0, 0)))))))) (cond (Nat.blt y 266) (cond (Nat.blt y 265) (⟨"MirrorHeirs$Reader", "sum", "()V"⟩, (prog_5_method_13_code, (3, (none, (0, 0))))) (⟨"MirrorHeirs$Reader", "take", "(Ljava/lang/String;)Z"⟩, (prog_5_method_21_code, (2, ((some (.boolean)), (0, 0)))))) (cond (Nat.blt y 267) (⟨"MirrorHeirs$Reader", "term", "()V"⟩, (prog_5_method_14_code, (3, (none, (0, 0))))) (cond (Nat.blt y 268) (⟨"MirrorHeirs$Reader", "test", "()V"⟩, (prog_5_method_10_code, (3, (none, (0, 0))))) (⟨"MirrorHeirs$Reader", "written", "(II)I"⟩, (prog_5_method_18_code, (4, ((some (.int)), (0, 0)))))))))) (cond (Nat.blt y 279) (cond (Nat.blt y 274) (cond (Nat.blt y 271) (cond (Nat.blt y 270) (⟨"MirrorHeirs$Rows", "add", "(III)I"⟩, (prog_6_method_5_code, (5, ((some (.int)), (0, 0))))) (⟨"MirrorHeirs$Rows", "clear", "()V"⟩, (prog_6_method_7_code, (1, (none, (0, 0)))))) (cond (Nat.blt y 272) (⟨"MirrorHeirs$Rows", "copy", "(LMirrorHeirs$Rows;)V"⟩, (prog_6_method_9_code, (4, (none, (0, 0))))) (cond (Nat.blt y 273) (⟨"MirrorHeirs$Rows", "drop", "(I)V"⟩, (prog_6_method_6_code, (3, (none, (0, 0))))) (⟨"MirrorHeirs$Rows", "find", "(I)I"⟩, (prog_6_method_8_code, (3, ((some (.int)), (0, 0)))))))) (cond (Nat.blt y 276) (cond (Nat.blt y 275) (⟨"MirrorHeirs$Rows", "get", "(II)I"⟩, (prog_6_method_3_code, (4, ((some (.int)), (0, 0))))) (⟨"MirrorHeirs$Rows", "has", "(I)Z"⟩, (prog_6_method_2_code, (2, ((some (.boolean)), (0, 0)))))) (cond (Nat.blt y 277) (⟨"MirrorHeirs$Rows", "<init>", "(II)V"⟩, (prog_6_method_1_code, (3, (none, (1, 72))))) (cond (Nat.blt y 278) (⟨"MirrorHeirs$Rows", "set", "(III)V"⟩, (prog_6_method_4_code, (5, (none, (0, 0))))) (⟨"MirrorHeirs$Sets", "argue", "()Z"⟩, (prog_7_method_19_code, (6, ((some (.boolean)), (0, 0))))))))) (cond (Nat.blt y 284) (cond (Nat.blt y 281) (cond (Nat.blt y 280) (⟨"MirrorHeirs$Sets", "cheapest", "(III)I"⟩, (prog_7_method_17_code, (7, ((some (.int)), (0, 0))))) (⟨"MirrorHeirs$Sets", "estateIn", "(II)I"⟩, (prog_7_method_8_code, (4, ((some (.int)), (0, 0)))))) (cond (Nat.blt y 282) (⟨"MirrorHeirs$Sets", "estatesIn", "(I)V"⟩, (prog_7_method_6_code, (5, (none, (0, 0))))) (cond (Nat.blt y 283) (⟨"MirrorHeirs$Sets", "fewestBits", "()I"⟩, (prog_7_method_16_code, (2, ((some (.int)), (0, 0))))) (⟨"MirrorHeirs$Sets", "fitCount", "()I"⟩, (prog_7_method_14_code, (3, ((some (.int)), (0, 0)))))))) (cond (Nat.blt y 287) (cond (Nat.blt y 285) (⟨"MirrorHeirs$Sets", "fitPeace", "()V"⟩, (prog_7_method_12_code, (3, (none, (0, 0))))) (cond (Nat.blt y 286) (⟨"MirrorHeirs$Sets", "fitTellings", "()V"⟩, (prog_7_method_11_code, (4, (none, (0, 0))))) (⟨"MirrorHeirs$Sets", "glimpseIn", "(II)V"⟩, (prog_7_method_4_code, (6, (none, (0, 0))))))) (cond (Nat.blt y 288) (⟨"MirrorHeirs$Sets", "<init>", "(LMirrorHeirs$Hall;LMirrorHeirs$Sight;LMirrorHeirs$Shares;)V"⟩, (prog_7_method_1_code, (4, (none, (6, 4096))))) (cond (Nat.blt y 289) (⟨"MirrorHeirs$Sets", "lightIn", "(I)V"⟩, (prog_7_method_5_code, (2, (none, (0, 0))))) (⟨"MirrorHeirs$Sets", "lowestOfFewest", "()I"⟩, (prog_7_method_15_code, (3, ((some (.int)), (0, 0))))))))))) (cond (Nat.blt y 311) (cond (Nat.blt y 300) (cond (Nat.blt y 295) (cond (Nat.blt y 292) (cond (Nat.blt y 291) (⟨"MirrorHeirs$Sets", "prepare", "()V"⟩, (prog_7_method_3_code, (5, (none, (0, 0))))) (⟨"MirrorHeirs$Sets", "priceOf", "(I)I"⟩, (prog_7_method_18_code, (4, ((some (.int)), (0, 0)))))) (cond (Nat.blt y 293) (⟨"MirrorHeirs$Sets", "sameAs", "(I)I"⟩, (prog_7_method_7_code, (8, ((some (.int)), (0, 0))))) (cond (Nat.blt y 294) (⟨"MirrorHeirs$Sets", "setCount", "()I"⟩, (prog_7_method_2_code, (1, ((some (.int)), (0, 0))))) (⟨"MirrorHeirs$Sets", "trace", "(II)V"⟩, (prog_7_method_9_code, (7, (none, (0, 0)))))))) (cond (Nat.blt y 297) (cond (Nat.blt y 296) (⟨"MirrorHeirs$Sets", "traced", "(I)I"⟩, (prog_7_method_10_code, (2, ((some (.int)), (0, 0))))) (⟨"MirrorHeirs$Sets", "wish", "(II)I"⟩, (prog_7_method_13_code, (6, ((some (.int)), (0, 0)))))) (cond (Nat.blt y 298) (⟨"MirrorHeirs$Shares", "asked", "(II)I"⟩, (prog_8_method_10_code, (10, ((some (.int)), (0, 0))))) (cond (Nat.blt y 299) (⟨"MirrorHeirs$Shares", "claimants", "(I)I"⟩, (prog_8_method_14_code, (4, ((some (.int)), (0, 0))))) (⟨"MirrorHeirs$Shares", "claimed", "(II)I"⟩, (prog_8_method_12_code, (4, ((some (.int)), (0, 0))))))))) (cond (Nat.blt y 305) (cond (Nat.blt y 302) (cond (Nat.blt y 301) (⟨"MirrorHeirs$Shares", "describe", "(II)V"⟩, (prog_8_method_11_code, (4, (none, (0, 0))))) (⟨"MirrorHeirs$Shares", "divide", "()V"⟩, (prog_8_method_9_code, (4, (none, (0, 0)))))) (cond (Nat.blt y 303) (⟨"MirrorHeirs$Shares", "estateOf", "(I)I"⟩, (prog_8_method_15_code, (2, ((some (.int)), (0, 0))))) (cond (Nat.blt y 304) (⟨"MirrorHeirs$Shares", "inPair", "(I)Z"⟩, (prog_8_method_8_code, (3, ((some (.boolean)), (0, 0))))) (⟨"MirrorHeirs$Shares", "<init>", "(LMirrorHeirs$Hall;LMirrorHeirs$Sight;)V"⟩, (prog_8_method_1_code, (3, (none, (7, 244)))))))) (cond (Nat.blt y 308) (cond (Nat.blt y 306) (⟨"MirrorHeirs$Shares", "kindle", "(LMirrorHeirs$Rows;)V"⟩, (prog_8_method_2_code, (3, (none, (0, 0))))) (cond (Nat.blt y 307) (⟨"MirrorHeirs$Shares", "measure", "()V"⟩, (prog_8_method_4_code, (2, (none, (0, 0))))) (⟨"MirrorHeirs$Shares", "metPivots", "()I"⟩, (prog_8_method_6_code, (3, ((some (.int)), (0, 0))))))) (cond (Nat.blt y 309) (⟨"MirrorHeirs$Shares", "packed", "()J"⟩, (prog_8_method_5_code, (6, ((some (.long)), (0, 0))))) (cond (Nat.blt y 310) (⟨"MirrorHeirs$Shares", "rent", "()I"⟩, (prog_8_method_3_code, (3, ((some (.int)), (0, 0))))) (⟨"MirrorHeirs$Shares", "seenBy", "(II)I"⟩, (prog_8_method_7_code, (3, ((some (.int)), (0, 0)))))))))) (cond (Nat.blt y 321) (cond (Nat.blt y 316) (cond (Nat.blt y 313) (cond (Nat.blt y 312) (⟨"MirrorHeirs$Shares", "total", "(I)I"⟩, (prog_8_method_13_code, (2, ((some (.int)), (0, 0))))) (⟨"MirrorHeirs$Sight", "along", "(III)I"⟩, (prog_9_method_9_code, (11, ((some (.int)), (0, 0)))))) (cond (Nat.blt y 314) (⟨"MirrorHeirs$Sight", "begin", "(I)V"⟩, (prog_9_method_3_code, (3, (none, (0, 0))))) (cond (Nat.blt y 315) (⟨"MirrorHeirs$Sight", "comesTo", "(III)Z"⟩, (prog_9_method_5_code, (5, ((some (.boolean)), (0, 0))))) (⟨"MirrorHeirs$Sight", "fogged", "(II)Z"⟩, (prog_9_method_11_code, (6, ((some (.boolean)), (0, 0)))))))) (cond (Nat.blt y 318) (cond (Nat.blt y 317) (⟨"MirrorHeirs$Sight", "fromAny", "(LMirrorHeirs$Rows;I)I"⟩, (prog_9_method_8_code, (6, ((some (.int)), (0, 0))))) (⟨"MirrorHeirs$Sight", "<init>", "(LMirrorHeirs$Hall;)V"⟩, (prog_9_method_1_code, (2, (none, (7, 2008)))))) (cond (Nat.blt y 319) (⟨"MirrorHeirs$Sight", "look", "(I)V"⟩, (prog_9_method_2_code, (9, (none, (0, 0))))) (cond (Nat.blt y 320) (⟨"MirrorHeirs$Sight", "seenAt", "(I)I"⟩, (prog_9_method_6_code, (2, ((some (.int)), (0, 0))))) (⟨"MirrorHeirs$Sight", "send", "(III)V"⟩, (prog_9_method_4_code, (4, (none, (0, 0))))))))) (cond (Nat.blt y 326) (cond (Nat.blt y 323) (cond (Nat.blt y 322) (⟨"MirrorHeirs$Sight", "settleFog", "()V"⟩, (prog_9_method_10_code, (3, (none, (0, 0))))) (⟨"MirrorHeirs$Sight", "thingsSeen", "()I"⟩, (prog_9_method_7_code, (3, ((some (.int)), (0, 0)))))) (cond (Nat.blt y 324) (⟨"MirrorHeirs$Slate", "combined", "(IJJ)I"⟩, (prog_10_method_4_code, (7, ((some (.int)), (0, 0))))) (cond (Nat.blt y 325) (⟨"MirrorHeirs$Slate", "<init>", "(II)V"⟩, (prog_10_method_1_code, (4, (none, (2, 146))))) (⟨"MirrorHeirs$Slate", "set", "(II)V"⟩, (prog_10_method_2_code, (3, (none, (0, 0)))))))) (cond (Nat.blt y 329) (cond (Nat.blt y 327) (⟨"MirrorHeirs$Slate", "value", "(LMirrorHeirs$Text;II)I"⟩, (prog_10_method_3_code, (9, ((some (.int)), (0, 0))))) (cond (Nat.blt y 328) (⟨"MirrorHeirs$Text", "aimHere", "(I)V"⟩, (prog_11_method_4_code, (2, (none, (0, 0))))) (⟨"MirrorHeirs$Text", "clear", "()V"⟩, (prog_11_method_2_code, (1, (none, (0, 0))))))) (cond (Nat.blt y 330) (⟨"MirrorHeirs$Text", "emit", "(II)I"⟩, (prog_11_method_3_code, (3, ((some (.int)), (0, 0))))) (cond (Nat.blt y 331) (⟨"MirrorHeirs$Text", "<init>", "(I)V"⟩, (prog_11_method_1_code, (2, (none, (3, 476))))) (⟨"MirrorHeirs$Text", "trimmed", "()LMirrorHeirs$Text;"⟩, (prog_11_method_5_code, (3, ((some (.object "MirrorHeirs$Text")), (4, 482))))))))))))))
theorem xj_J0_charAt_5068e : xJ 0 = (⟨"java/lang/String", "charAt", "(I)C"⟩, (prog_18_method_56_code, (2, ((some (.char)), (0, 0))))) := rfl
theorem xj_J0_checkIndex_df160 : xJ 1 = (⟨"java/lang/String", "checkIndex", "(II)V"⟩, (prog_18_method_155_code, (2, (none, (0, 0))))) := rfl
theorem xj_J0_coder_7d493 : xJ 2 = (⟨"java/lang/String", "coder", "()B"⟩, (prog_18_method_152_code, (1, ((some (.byte)), (0, 0))))) := rfl
theorem xj_J0_isLatin1_aae02 : xJ 3 = (⟨"java/lang/String", "isLatin1", "()Z"⟩, (prog_18_method_154_code, (1, ((some (.boolean)), (0, 0))))) := rfl
theorem xj_J0_length_8abf5 : xJ 4 = (⟨"java/lang/String", "length", "()I"⟩, (prog_18_method_54_code, (1, ((some (.int)), (0, 0))))) := rfl
theorem xj_J13_bitCount_95d88 : xJ 5 = (⟨"java/lang/Long", "bitCount", "(J)I"⟩, (prog_16_method_50_code, (2, ((some (.int)), (0, 0))))) := rfl
theorem xj_J1_charAt_3b067 : xJ 6 = (⟨"java/lang/StringLatin1", "charAt", "([BI)C"⟩, (prog_19_method_2_code, (2, ((some (.char)), (0, 0))))) := rfl
theorem xj_J2_charAt_3b067 : xJ 7 = (⟨"java/lang/StringUTF16", "charAt", "([BI)C"⟩, (prog_20_method_83_code, (2, ((some (.char)), (0, 0))))) := rfl
theorem xj_J2_checkIndex_2214a : xJ 8 = (⟨"java/lang/StringUTF16", "checkIndex", "(I[B)V"⟩, (prog_20_method_91_code, (2, (none, (0, 0))))) := rfl
theorem xj_J2_length_9d52b : xJ 10 = (⟨"java/lang/StringUTF16", "length", "([B)I"⟩, (prog_20_method_6_code, (1, ((some (.int)), (0, 0))))) := rfl
theorem xj_J3_checkIndex_8e157 : xJ 11 = (⟨"jdk/internal/util/Preconditions", "checkIndex", "(IILjava/util/function/BiFunction;)I"⟩, (prog_22_method_11_code, (3, ((some (.int)), (0, 0))))) := rfl
theorem xj_J6_bitCount_0f7a4 : xJ 12 = (⟨"java/lang/Integer", "bitCount", "(I)I"⟩, (prog_15_method_49_code, (1, ((some (.int)), (0, 0))))) := rfl
theorem xj_J7_fill_53178 : xJ 13 = (⟨"java/util/Arrays", "fill", "([II)V"⟩, (prog_21_method_103_code, (4, (none, (0, 0))))) := rfl
theorem xj_J9_abs_0f7a4 : xJ 14 = (⟨"java/lang/Math", "abs", "(I)I"⟩, (prog_17_method_59_code, (1, ((some (.int)), (0, 0))))) := rfl
theorem xj_J9_max_7cf53 : xJ 15 = (⟨"java/lang/Math", "max", "(II)I"⟩, (prog_17_method_65_code, (2, ((some (.int)), (0, 0))))) := rfl
theorem xj_J9_min_7cf53 : xJ 16 = (⟨"java/lang/Math", "min", "(II)I"⟩, (prog_17_method_69_code, (2, ((some (.int)), (0, 0))))) := rfl
theorem xj_X0_forgetAll : xJ 18 = (⟨"MirrorHeirs$Deeds", "forgetAll", "()V"⟩, (prog_2_method_2_code, (1, (none, (0, 0))))) := rfl
theorem xj_X0_init : xJ 19 = (⟨"MirrorHeirs$Deeds", "<init>", "(LMirrorHeirs$Hall;LMirrorHeirs$Shares;)V"⟩, (prog_2_method_1_code, (3, (none, (23, 840))))) := rfl
theorem xj_X0_learn : xJ 20 = (⟨"MirrorHeirs$Deeds", "learn", "(LMirrorHeirs$Text;I)V"⟩, (prog_2_method_8_code, (5, (none, (0, 0))))) := rfl
theorem xj_X0_moveHeir : xJ 21 = (⟨"MirrorHeirs$Deeds", "moveHeir", "(II)V"⟩, (prog_2_method_4_code, (3, (none, (0, 0))))) := rfl
theorem xj_X0_note : xJ 22 = (⟨"MirrorHeirs$Deeds", "note", "(III)V"⟩, (prog_2_method_5_code, (4, (none, (0, 0))))) := rfl
theorem xj_X0_perform : xJ 23 = (⟨"MirrorHeirs$Deeds", "perform", "(LMirrorHeirs$Text;I)Z"⟩, (prog_2_method_9_code, (7, ((some (.boolean)), (0, 0))))) := rfl
theorem xj_X0_run : xJ 24 = (⟨"MirrorHeirs$Deeds", "run", "(LMirrorHeirs$Text;)I"⟩, (prog_2_method_7_code, (6, ((some (.int)), (0, 0))))) := rfl
theorem xj_X0_takeBack : xJ 25 = (⟨"MirrorHeirs$Deeds", "takeBack", "()I"⟩, (prog_2_method_6_code, (3, ((some (.int)), (0, 0))))) := rfl
theorem xj_X0_turnPivot : xJ 26 = (⟨"MirrorHeirs$Deeds", "turnPivot", "(I)V"⟩, (prog_2_method_3_code, (2, (none, (0, 0))))) := rfl
theorem xj_X10_blow : xJ 27 = (⟨"MirrorHeirs$Wind", "blow", "(II)I"⟩, (prog_12_method_2_code, (7, ((some (.int)), (0, 0))))) := rfl
theorem xj_X10_draw : xJ 28 = (⟨"MirrorHeirs$Wind", "draw", "(I)I"⟩, (prog_12_method_4_code, (2, ((some (.int)), (0, 0))))) := rfl
theorem xj_X10_drift : xJ 29 = (⟨"MirrorHeirs$Wind", "drift", "(I)V"⟩, (prog_12_method_3_code, (3, (none, (0, 0))))) := rfl
theorem xj_X10_init : xJ 30 = (⟨"MirrorHeirs$Wind", "<init>", "(LMirrorHeirs$Hall;LMirrorHeirs$Shares;)V"⟩, (prog_12_method_1_code, (3, (none, (2, 76))))) := rfl
theorem xj_X11_added : xJ 31 = (⟨"MirrorHeirs", "added", "(I)I"⟩, (prog_1_method_49_code, (2, ((some (.int)), (0, 0))))) := rfl
theorem xj_X11_addedCount : xJ 32 = (⟨"MirrorHeirs", "addedCount", "(I)I"⟩, (prog_1_method_50_code, (2, ((some (.int)), (0, 0))))) := rfl
theorem xj_X11_append : xJ 33 = (⟨"MirrorHeirs", "append", "(I)V"⟩, (prog_1_method_52_code, (3, (none, (0, 0))))) := rfl
theorem xj_X11_at : xJ 34 = (⟨"MirrorHeirs", "at", "(II)I"⟩, (prog_1_method_3_code, (3, ((some (.int)), (0, 0))))) := rfl
theorem xj_X11_back : xJ 35 = (⟨"MirrorHeirs", "back", "(I)I"⟩, (prog_1_method_44_code, (2, ((some (.int)), (0, 0))))) := rfl
theorem xj_X11_bent : xJ 36 = (⟨"MirrorHeirs", "bent", "(II)I"⟩, (prog_1_method_64_code, (3, ((some (.int)), (0, 0))))) := rfl
theorem xj_X11_candle : xJ 37 = (⟨"MirrorHeirs", "candle", "(I)I"⟩, (prog_1_method_11_code, (2, ((some (.int)), (0, 0))))) := rfl
theorem xj_X11_claim : xJ 38 = (⟨"MirrorHeirs", "claim", "(III)I"⟩, (prog_1_method_26_code, (6, ((some (.int)), (0, 0))))) := rfl
theorem xj_X11_count : xJ 39 = (⟨"MirrorHeirs", "count", "(I)I"⟩, (prog_1_method_45_code, (2, ((some (.int)), (0, 0))))) := rfl
theorem xj_X11_countOrPick : xJ 40 = (⟨"MirrorHeirs", "countOrPick", "(JI)I"⟩, (prog_1_method_55_code, (3, ((some (.int)), (0, 0))))) := rfl
theorem xj_X11_divideNow : xJ 41 = (⟨"MirrorHeirs", "divideNow", "()V"⟩, (prog_1_method_54_code, (1, (none, (0, 0))))) := rfl
theorem xj_X11_draughts : xJ 42 = (⟨"MirrorHeirs", "draughts", "(II)I"⟩, (prog_1_method_41_code, (3, ((some (.int)), (0, 0))))) := rfl
theorem xj_X11_drawn : xJ 43 = (⟨"MirrorHeirs", "drawn", "(II)I"⟩, (prog_1_method_42_code, (3, ((some (.int)), (0, 0))))) := rfl
theorem xj_X11_dust : xJ 44 = (⟨"MirrorHeirs", "dust", "()I"⟩, (prog_1_method_16_code, (1, ((some (.int)), (0, 0))))) := rfl
theorem xj_X11_end : xJ 45 = (⟨"MirrorHeirs", "end", "(I)I"⟩, (prog_1_method_14_code, (2, ((some (.int)), (0, 0))))) := rfl
theorem xj_X11_estate : xJ 46 = (⟨"MirrorHeirs", "estate", "(I)I"⟩, (prog_1_method_28_code, (2, ((some (.int)), (0, 0))))) := rfl
theorem xj_X11_fault : xJ 47 = (⟨"MirrorHeirs", "fault", "()I"⟩, (prog_1_method_19_code, (1, ((some (.int)), (0, 0))))) := rfl
theorem xj_X11_feed : xJ 48 = (⟨"MirrorHeirs", "feed", "(IIIII)I"⟩, (prog_1_method_13_code, (6, ((some (.int)), (0, 0))))) := rfl
theorem xj_X11_force : xJ 49 = (⟨"MirrorHeirs", "force", "(I)I"⟩, (prog_1_method_21_code, (3, ((some (.int)), (0, 0))))) := rfl
theorem xj_X11_forget : xJ 50 = (⟨"MirrorHeirs", "forget", "()I"⟩, (prog_1_method_35_code, (2, ((some (.int)), (0, 0))))) := rfl
theorem xj_X11_glance : xJ 51 = (⟨"MirrorHeirs", "glance", "(II)I"⟩, (prog_1_method_23_code, (3, ((some (.int)), (0, 0))))) := rfl
theorem xj_X11_granted : xJ 52 = (⟨"MirrorHeirs", "granted", "(I)I"⟩, (prog_1_method_48_code, (2, ((some (.int)), (0, 0))))) := rfl
theorem xj_X11_greatestDivisor : xJ 53 = (⟨"MirrorHeirs", "greatestDivisor", "(II)I"⟩, (prog_1_method_57_code, (6, ((some (.int)), (0, 0))))) := rfl
theorem xj_X11_heir : xJ 54 = (⟨"MirrorHeirs", "heir", "(II)I"⟩, (prog_1_method_7_code, (3, ((some (.int)), (0, 0))))) := rfl
theorem xj_X11_hide : xJ 55 = (⟨"MirrorHeirs", "hide", "(III)I"⟩, (prog_1_method_37_code, (6, ((some (.int)), (0, 0))))) := rfl
theorem xj_X11_hides : xJ 56 = (⟨"MirrorHeirs", "hides", "(I)I"⟩, (prog_1_method_38_code, (2, ((some (.int)), (0, 0))))) := rfl
theorem xj_X11_hint : xJ 57 = (⟨"MirrorHeirs", "hint", "(II)I"⟩, (prog_1_method_33_code, (3, ((some (.int)), (0, 0))))) := rfl
theorem xj_X11_image : xJ 58 = (⟨"MirrorHeirs", "image", "(I)I"⟩, (prog_1_method_43_code, (2, ((some (.int)), (16, 540))))) := rfl
theorem xj_X11_init : xJ 59 = (⟨"MirrorHeirs", "<init>", "()V"⟩, (prog_1_method_1_code, (5, (none, (78, 8952))))) := rfl
theorem xj_X11_isCell : xJ 60 = (⟨"MirrorHeirs", "isCell", "(I)Z"⟩, (prog_1_method_59_code, (1, ((some (.boolean)), (0, 0))))) := rfl
theorem xj_X11_isGlass : xJ 61 = (⟨"MirrorHeirs", "isGlass", "(I)Z"⟩, (prog_1_method_61_code, (1, ((some (.boolean)), (0, 0))))) := rfl
theorem xj_X11_isKind : xJ 62 = (⟨"MirrorHeirs", "isKind", "(I)Z"⟩, (prog_1_method_60_code, (1, ((some (.boolean)), (0, 0))))) := rfl
theorem xj_X11_isWithin : xJ 63 = (⟨"MirrorHeirs", "isWithin", "(III)Z"⟩, (prog_1_method_58_code, (3, ((some (.boolean)), (0, 0))))) := rfl
theorem xj_X11_law : xJ 64 = (⟨"MirrorHeirs", "law", "()I"⟩, (prog_1_method_17_code, (2, ((some (.int)), (4, 482))))) := rfl
theorem xj_X11_lit : xJ 65 = (⟨"MirrorHeirs", "lit", "(I)I"⟩, (prog_1_method_29_code, (2, ((some (.int)), (0, 0))))) := rfl
theorem xj_X11_move : xJ 66 = (⟨"MirrorHeirs", "move", "(II)I"⟩, (prog_1_method_8_code, (4, ((some (.int)), (0, 0))))) := rfl
theorem xj_X11_of : xJ 67 = (⟨"MirrorHeirs", "of", "(II)I"⟩, (prog_1_method_5_code, (3, ((some (.int)), (0, 0))))) := rfl
theorem xj_X11_orders : xJ 68 = (⟨"MirrorHeirs", "orders", "()I"⟩, (prog_1_method_18_code, (3, ((some (.int)), (0, 0))))) := rfl
theorem xj_X11_owner : xJ 69 = (⟨"MirrorHeirs", "owner", "(II)I"⟩, (prog_1_method_27_code, (4, ((some (.int)), (0, 0))))) := rfl
theorem xj_X11_pair : xJ 70 = (⟨"MirrorHeirs", "pair", "(II)I"⟩, (prog_1_method_25_code, (3, ((some (.int)), (0, 0))))) := rfl
theorem xj_X11_peace : xJ 71 = (⟨"MirrorHeirs", "peace", "(I)I"⟩, (prog_1_method_39_code, (2, ((some (.int)), (0, 0))))) := rfl
theorem xj_X11_pick : xJ 72 = (⟨"MirrorHeirs", "pick", "(JI)I"⟩, (prog_1_method_56_code, (5, ((some (.int)), (0, 0))))) := rfl
theorem xj_X11_pivot : xJ 73 = (⟨"MirrorHeirs", "pivot", "(III)I"⟩, (prog_1_method_4_code, (4, ((some (.int)), (0, 0))))) := rfl
theorem xj_X11_put : xJ 74 = (⟨"MirrorHeirs", "put", "(II)I"⟩, (prog_1_method_2_code, (4, ((some (.int)), (0, 0))))) := rfl
theorem xj_X11_quarrel : xJ 75 = (⟨"MirrorHeirs", "quarrel", "(I)I"⟩, (prog_1_method_40_code, (3, ((some (.int)), (0, 0))))) := rfl
theorem xj_X11_ray : xJ 76 = (⟨"MirrorHeirs", "ray", "(III)I"⟩, (prog_1_method_22_code, (4, ((some (.int)), (0, 0))))) := rfl
theorem xj_X11_refusalsBy : xJ 77 = (⟨"MirrorHeirs", "refusalsBy", "(I)I"⟩, (prog_1_method_51_code, (3, ((some (.int)), (0, 0))))) := rfl
theorem xj_X11_refused : xJ 78 = (⟨"MirrorHeirs", "refused", "(I)I"⟩, (prog_1_method_47_code, (3, ((some (.int)), (0, 0))))) := rfl
theorem xj_X11_reveal : xJ 79 = (⟨"MirrorHeirs", "reveal", "(IIII)I"⟩, (prog_1_method_36_code, (6, ((some (.int)), (0, 0))))) := rfl
theorem xj_X11_row : xJ 80 = (⟨"MirrorHeirs", "row", "()I"⟩, (prog_1_method_15_code, (6, ((some (.int)), (0, 0))))) := rfl
theorem xj_X11_sees : xJ 81 = (⟨"MirrorHeirs", "sees", "(II)Z"⟩, (prog_1_method_53_code, (3, ((some (.boolean)), (0, 0))))) := rfl
theorem xj_X11_stand : xJ 82 = (⟨"MirrorHeirs", "stand", "(II)I"⟩, (prog_1_method_30_code, (3, ((some (.int)), (0, 0))))) := rfl
theorem xj_X11_status : xJ 83 = (⟨"MirrorHeirs", "status", "()I"⟩, (prog_1_method_46_code, (1, ((some (.int)), (0, 0))))) := rfl
theorem xj_X11_step : xJ 84 = (⟨"MirrorHeirs", "step", "(II)I"⟩, (prog_1_method_63_code, (2, ((some (.int)), (0, 0))))) := rfl
theorem xj_X11_stopped : xJ 85 = (⟨"MirrorHeirs", "stopped", "()I"⟩, (prog_1_method_20_code, (1, ((some (.int)), (0, 0))))) := rfl
theorem xj_X11_stranger : xJ 86 = (⟨"MirrorHeirs", "stranger", "(I)I"⟩, (prog_1_method_34_code, (2, ((some (.int)), (0, 0))))) := rfl
theorem xj_X11_telling : xJ 87 = (⟨"MirrorHeirs", "telling", "(III)I"⟩, (prog_1_method_31_code, (4, ((some (.int)), (0, 0))))) := rfl
theorem xj_X11_terms : xJ 88 = (⟨"MirrorHeirs", "terms", "(II)I"⟩, (prog_1_method_12_code, (4, ((some (.int)), (0, 0))))) := rfl
theorem xj_X11_thing : xJ 89 = (⟨"MirrorHeirs", "thing", "(III)I"⟩, (prog_1_method_10_code, (4, ((some (.int)), (0, 0))))) := rfl
theorem xj_X11_turn : xJ 90 = (⟨"MirrorHeirs", "turn", "(I)I"⟩, (prog_1_method_6_code, (2, ((some (.int)), (0, 0))))) := rfl
theorem xj_X11_turned : xJ 91 = (⟨"MirrorHeirs", "turned", "(I)I"⟩, (prog_1_method_32_code, (2, ((some (.int)), (0, 0))))) := rfl
theorem xj_X11_turnedKind : xJ 92 = (⟨"MirrorHeirs", "turnedKind", "(I)I"⟩, (prog_1_method_62_code, (1, ((some (.int)), (0, 0))))) := rfl
theorem xj_X11_undo : xJ 93 = (⟨"MirrorHeirs", "undo", "()I"⟩, (prog_1_method_9_code, (2, ((some (.int)), (0, 0))))) := rfl
theorem xj_X11_views : xJ 94 = (⟨"MirrorHeirs", "views", "(I)I"⟩, (prog_1_method_24_code, (2, ((some (.int)), (0, 0))))) := rfl
theorem xj_X12_arePaired : xJ 95 = (⟨"MirrorHeirsModel", "arePaired", "(II)Z"⟩, (prog_14_method_89_code, (3, ((some (.boolean)), (0, 0))))) := rfl
theorem xj_X12_areSo : xJ 96 = (⟨"MirrorHeirsModel", "areSo", "()Z"⟩, (prog_14_method_103_code, (2, ((some (.boolean)), (0, 0))))) := rfl
theorem xj_X12_at : xJ 97 = (⟨"MirrorHeirsModel", "at", "(II)I"⟩, (prog_14_method_20_code, (3, ((some (.int)), (0, 0))))) := rfl
theorem xj_X12_back : xJ 98 = (⟨"MirrorHeirsModel", "back", "(I)I"⟩, (prog_14_method_8_code, (3, ((some (.int)), (0, 0))))) := rfl
theorem xj_X12_behind : xJ 99 = (⟨"MirrorHeirsModel", "behind", "(II)I"⟩, (prog_14_method_80_code, (2, ((some (.int)), (0, 0))))) := rfl
theorem xj_X12_beside : xJ 100 = (⟨"MirrorHeirsModel", "beside", "(II)I"⟩, (prog_14_method_78_code, (4, ((some (.int)), (0, 0))))) := rfl
theorem xj_X12_bothOf : xJ 101 = (⟨"MirrorHeirsModel", "bothOf", "(Z)Z"⟩, (prog_14_method_73_code, (4, ((some (.boolean)), (0, 0))))) := rfl
theorem xj_X12_bounded : xJ 102 = (⟨"MirrorHeirsModel", "bounded", "(JZ)J"⟩, (prog_14_method_68_code, (4, ((some (.long)), (0, 0))))) := rfl
theorem xj_X12_candle : xJ 103 = (⟨"MirrorHeirsModel", "candle", "(I)I"⟩, (prog_14_method_34_code, (3, ((some (.int)), (0, 0))))) := rfl
theorem xj_X12_claim : xJ 104 = (⟨"MirrorHeirsModel", "claim", "(III)I"⟩, (prog_14_method_94_code, (6, ((some (.int)), (0, 0))))) := rfl
theorem xj_X12_claimOf : xJ 105 = (⟨"MirrorHeirsModel", "claimOf", "(II)I"⟩, (prog_14_method_91_code, (4, ((some (.int)), (0, 0))))) := rfl
theorem xj_X12_codeAt : xJ 106 = (⟨"MirrorHeirsModel", "codeAt", "(I)I"⟩, (prog_14_method_66_code, (2, ((some (.int)), (0, 0))))) := rfl
theorem xj_X12_common : xJ 107 = (⟨"MirrorHeirsModel", "common", "(II)I"⟩, (prog_14_method_93_code, (5, ((some (.int)), (0, 0))))) := rfl
theorem xj_X12_count : xJ 108 = (⟨"MirrorHeirsModel", "count", "(I)I"⟩, (prog_14_method_126_code, (2, ((some (.int)), (0, 0))))) := rfl
theorem xj_X12_draughts : xJ 109 = (⟨"MirrorHeirsModel", "draughts", "(II)I"⟩, (prog_14_method_124_code, (8, ((some (.int)), (0, 0))))) := rfl
theorem xj_X12_drawn : xJ 110 = (⟨"MirrorHeirsModel", "drawn", "(II)I"⟩, (prog_14_method_125_code, (3, ((some (.int)), (0, 0))))) := rfl
theorem xj_X12_draws : xJ 111 = (⟨"MirrorHeirsModel", "draws", "(I)I"⟩, (prog_14_method_123_code, (2, ((some (.int)), (0, 0))))) := rfl
theorem xj_X12_dust : xJ 112 = (⟨"MirrorHeirsModel", "dust", "()I"⟩, (prog_14_method_37_code, (1, ((some (.int)), (0, 0))))) := rfl
theorem xj_X12_end : xJ 113 = (⟨"MirrorHeirsModel", "end", "(I)I"⟩, (prog_14_method_39_code, (2, ((some (.int)), (0, 0))))) := rfl
theorem xj_X12_estate : xJ 114 = (⟨"MirrorHeirsModel", "estate", "(I)I"⟩, (prog_14_method_96_code, (2, ((some (.int)), (0, 0))))) := rfl
theorem xj_X12_fault : xJ 115 = (⟨"MirrorHeirsModel", "fault", "()I"⟩, (prog_14_method_64_code, (1, ((some (.int)), (0, 0))))) := rfl
theorem xj_X12_faults : xJ 116 = (⟨"MirrorHeirsModel", "faults", "()V"⟩, (prog_14_method_45_code, (1, (none, (0, 0))))) := rfl
theorem xj_X12_feed : xJ 117 = (⟨"MirrorHeirsModel", "feed", "(IIIII)I"⟩, (prog_14_method_38_code, (7, ((some (.int)), (0, 0))))) := rfl
theorem xj_X12_fine : xJ 118 = (⟨"MirrorHeirsModel", "fine", "()Z"⟩, (prog_14_method_44_code, (1, ((some (.boolean)), (0, 0))))) := rfl
theorem xj_X12_firstAt : xJ 119 = (⟨"MirrorHeirsModel", "firstAt", "(IIII)I"⟩, (prog_14_method_13_code, (6, ((some (.int)), (0, 0))))) := rfl
theorem xj_X12_force : xJ 120 = (⟨"MirrorHeirsModel", "force", "(I)I"⟩, (prog_14_method_65_code, (3, ((some (.int)), (0, 0))))) := rfl
theorem xj_X12_forget : xJ 121 = (⟨"MirrorHeirsModel", "forget", "()I"⟩, (prog_14_method_107_code, (2, ((some (.int)), (0, 0))))) := rfl
theorem xj_X12_glance : xJ 122 = (⟨"MirrorHeirsModel", "glance", "(II)I"⟩, (prog_14_method_85_code, (3, ((some (.int)), (0, 0))))) := rfl
theorem xj_X12_glanceOf : xJ 123 = (⟨"MirrorHeirsModel", "glanceOf", "(II)I"⟩, (prog_14_method_108_code, (3, ((some (.int)), (0, 0))))) := rfl
theorem xj_X12_goesAlong : xJ 124 = (⟨"MirrorHeirsModel", "goesAlong", "(Z)V"⟩, (prog_14_method_119_code, (4, (none, (0, 0))))) := rfl
theorem xj_X12_goesOn : xJ 125 = (⟨"MirrorHeirsModel", "goesOn", "(I)I"⟩, (prog_14_method_83_code, (8, ((some (.int)), (0, 0))))) := rfl
theorem xj_X12_good : xJ 126 = (⟨"MirrorHeirsModel", "good", "(I)I"⟩, (prog_14_method_3_code, (2, ((some (.int)), (0, 0))))) := rfl
theorem xj_X12_heir : xJ 127 = (⟨"MirrorHeirsModel", "heir", "(II)I"⟩, (prog_14_method_27_code, (4, ((some (.int)), (0, 0))))) := rfl
theorem xj_X12_heirAt : xJ 128 = (⟨"MirrorHeirsModel", "heirAt", "(I)I"⟩, (prog_14_method_15_code, (2, ((some (.int)), (0, 0))))) := rfl
theorem xj_X12_hide : xJ 129 = (⟨"MirrorHeirsModel", "hide", "(III)I"⟩, (prog_14_method_110_code, (7, ((some (.int)), (0, 0))))) := rfl
theorem xj_X12_hides : xJ 130 = (⟨"MirrorHeirsModel", "hides", "(I)I"⟩, (prog_14_method_111_code, (7, ((some (.int)), (0, 0))))) := rfl
theorem xj_X12_hint : xJ 131 = (⟨"MirrorHeirsModel", "hint", "(II)I"⟩, (prog_14_method_105_code, (4, ((some (.int)), (0, 0))))) := rfl
theorem xj_X12_image : xJ 132 = (⟨"MirrorHeirsModel", "image", "(I)I"⟩, (prog_14_method_7_code, (3, ((some (.int)), (0, 0))))) := rfl
theorem xj_X12_init : xJ 133 = (⟨"MirrorHeirsModel", "<init>", "()V"⟩, (prog_14_method_6_code, (1, (none, (34, 29597))))) := rfl
theorem xj_X12_isCell : xJ 134 = (⟨"MirrorHeirsModel", "isCell", "(I)Z"⟩, (prog_14_method_9_code, (1, ((some (.boolean)), (0, 0))))) := rfl
theorem xj_X12_isDigit : xJ 135 = (⟨"MirrorHeirsModel", "isDigit", "(I)Z"⟩, (prog_14_method_41_code, (1, ((some (.boolean)), (0, 0))))) := rfl
theorem xj_X12_isEnd : xJ 136 = (⟨"MirrorHeirsModel", "isEnd", "(II)Z"⟩, (prog_14_method_81_code, (3, ((some (.boolean)), (0, 0))))) := rfl
theorem xj_X12_isGlass : xJ 137 = (⟨"MirrorHeirsModel", "isGlass", "(I)Z"⟩, (prog_14_method_21_code, (1, ((some (.boolean)), (0, 0))))) := rfl
theorem xj_X12_isHeir : xJ 138 = (⟨"MirrorHeirsModel", "isHeir", "(I)Z"⟩, (prog_14_method_11_code, (2, ((some (.boolean)), (0, 0))))) := rfl
theorem xj_X12_isIn : xJ 139 = (⟨"MirrorHeirsModel", "isIn", "(II)Z"⟩, (prog_14_method_4_code, (2, ((some (.boolean)), (0, 0))))) := rfl
theorem xj_X12_isPivot : xJ 140 = (⟨"MirrorHeirsModel", "isPivot", "(I)Z"⟩, (prog_14_method_10_code, (2, ((some (.boolean)), (0, 0))))) := rfl
theorem xj_X12_isSmall : xJ 141 = (⟨"MirrorHeirsModel", "isSmall", "(I)Z"⟩, (prog_14_method_40_code, (1, ((some (.boolean)), (0, 0))))) := rfl
theorem xj_X12_isThing : xJ 142 = (⟨"MirrorHeirsModel", "isThing", "(I)Z"⟩, (prog_14_method_12_code, (2, ((some (.boolean)), (0, 0))))) := rfl
theorem xj_X12_keeps : xJ 143 = (⟨"MirrorHeirsModel", "keeps", "(III)V"⟩, (prog_14_method_29_code, (5, (none, (0, 0))))) := rfl
theorem xj_X12_law : xJ 144 = (⟨"MirrorHeirsModel", "law", "()I"⟩, (prog_14_method_63_code, (1, ((some (.int)), (0, 0))))) := rfl
theorem xj_X12_lays : xJ 145 = (⟨"MirrorHeirsModel", "lays", "(I)V"⟩, (prog_14_method_62_code, (3, (none, (0, 0))))) := rfl
theorem xj_X12_laysEstates : xJ 146 = (⟨"MirrorHeirsModel", "laysEstates", "()V"⟩, (prog_14_method_112_code, (3, (none, (0, 0))))) := rfl
theorem xj_X12_laysFog : xJ 147 = (⟨"MirrorHeirsModel", "laysFog", "()V"⟩, (prog_14_method_77_code, (4, (none, (0, 0))))) := rfl
theorem xj_X12_leaf : xJ 148 = (⟨"MirrorHeirsModel", "leaf", "()V"⟩, (prog_14_method_48_code, (1, (none, (0, 0))))) := rfl
theorem xj_X12_lieIn : xJ 149 = (⟨"MirrorHeirsModel", "lieIn", "(JII)Z"⟩, (prog_14_method_121_code, (4, ((some (.boolean)), (0, 0))))) := rfl
theorem xj_X12_lies : xJ 150 = (⟨"MirrorHeirsModel", "lies", "(III)Z"⟩, (prog_14_method_1_code, (3, ((some (.boolean)), (0, 0))))) := rfl
theorem xj_X12_lights : xJ 151 = (⟨"MirrorHeirsModel", "lights", "()V"⟩, (prog_14_method_88_code, (3, (none, (0, 0))))) := rfl
theorem xj_X12_lit : xJ 152 = (⟨"MirrorHeirsModel", "lit", "(I)I"⟩, (prog_14_method_98_code, (3, ((some (.int)), (0, 0))))) := rfl
theorem xj_X12_looks : xJ 153 = (⟨"MirrorHeirsModel", "looks", "()V"⟩, (prog_14_method_90_code, (4, (none, (0, 0))))) := rfl
theorem xj_X12_looksFrom : xJ 154 = (⟨"MirrorHeirsModel", "looksFrom", "(I)V"⟩, (prog_14_method_82_code, (4, (none, (0, 0))))) := rfl
theorem xj_X12_mayBe : xJ 155 = (⟨"MirrorHeirsModel", "mayBe", "(II)Z"⟩, (prog_14_method_18_code, (3, ((some (.boolean)), (0, 0))))) := rfl
theorem xj_X12_move : xJ 156 = (⟨"MirrorHeirsModel", "move", "(II)I"⟩, (prog_14_method_28_code, (4, ((some (.int)), (0, 0))))) := rfl
theorem xj_X12_movesKept : xJ 157 = (⟨"MirrorHeirsModel", "movesKept", "(II)V"⟩, (prog_14_method_31_code, (3, (none, (0, 0))))) := rfl
theorem xj_X12_must : xJ 158 = (⟨"MirrorHeirsModel", "must", "(I)V"⟩, (prog_14_method_47_code, (2, (none, (0, 0))))) := rfl
theorem xj_X12_mustNumber : xJ 159 = (⟨"MirrorHeirsModel", "mustNumber", "(II)V"⟩, (prog_14_method_50_code, (3, (none, (0, 0))))) := rfl
theorem xj_X12_obeys : xJ 160 = (⟨"MirrorHeirsModel", "obeys", "()Z"⟩, (prog_14_method_122_code, (1, ((some (.boolean)), (0, 0))))) := rfl
theorem xj_X12_of : xJ 161 = (⟨"MirrorHeirsModel", "of", "(II)I"⟩, (prog_14_method_23_code, (3, ((some (.int)), (0, 0))))) := rfl
theorem xj_X12_ones : xJ 162 = (⟨"MirrorHeirsModel", "ones", "(I)I"⟩, (prog_14_method_5_code, (3, ((some (.int)), (0, 0))))) := rfl
theorem xj_X12_orders : xJ 163 = (⟨"MirrorHeirsModel", "orders", "()I"⟩, (prog_14_method_117_code, (5, ((some (.int)), (0, 0))))) := rfl
theorem xj_X12_otherKind : xJ 164 = (⟨"MirrorHeirsModel", "otherKind", "(I)I"⟩, (prog_14_method_24_code, (1, ((some (.int)), (0, 0))))) := rfl
theorem xj_X12_owner : xJ 165 = (⟨"MirrorHeirsModel", "owner", "(II)I"⟩, (prog_14_method_95_code, (6, ((some (.int)), (0, 0))))) := rfl
theorem xj_X12_pair : xJ 166 = (⟨"MirrorHeirsModel", "pair", "(II)I"⟩, (prog_14_method_92_code, (3, ((some (.int)), (0, 0))))) := rfl
theorem xj_X12_partOf : xJ 167 = (⟨"MirrorHeirsModel", "partOf", "(Z)J"⟩, (prog_14_method_71_code, (5, ((some (.long)), (0, 0))))) := rfl
theorem xj_X12_passes0 : xJ 168 = (⟨"MirrorHeirsModel", "passes0", "(I)Z"⟩, (prog_14_method_67_code, (3, ((some (.boolean)), (0, 0))))) := rfl
theorem xj_X12_peace : xJ 169 = (⟨"MirrorHeirsModel", "peace", "(I)I"⟩, (prog_14_method_114_code, (7, ((some (.int)), (0, 0))))) := rfl
theorem xj_X12_pivot : xJ 170 = (⟨"MirrorHeirsModel", "pivot", "(III)I"⟩, (prog_14_method_22_code, (5, ((some (.int)), (0, 0))))) := rfl
theorem xj_X12_pivotAt : xJ 171 = (⟨"MirrorHeirsModel", "pivotAt", "(I)I"⟩, (prog_14_method_14_code, (2, ((some (.int)), (0, 0))))) := rfl
theorem xj_X12_plainOf : xJ 172 = (⟨"MirrorHeirsModel", "plainOf", "(Z)Z"⟩, (prog_14_method_74_code, (3, ((some (.boolean)), (0, 0))))) := rfl
theorem xj_X12_positiveOf : xJ 173 = (⟨"MirrorHeirsModel", "positiveOf", "(Z)Z"⟩, (prog_14_method_75_code, (7, ((some (.boolean)), (0, 0))))) := rfl
theorem xj_X12_put : xJ 174 = (⟨"MirrorHeirsModel", "put", "(II)I"⟩, (prog_14_method_19_code, (4, ((some (.int)), (0, 0))))) := rfl
theorem xj_X12_quarrel : xJ 175 = (⟨"MirrorHeirsModel", "quarrel", "(I)I"⟩, (prog_14_method_115_code, (9, ((some (.int)), (0, 0))))) := rfl
theorem xj_X12_ray : xJ 176 = (⟨"MirrorHeirsModel", "ray", "(III)I"⟩, (prog_14_method_84_code, (9, ((some (.int)), (0, 0))))) := rfl
theorem xj_X12_readBoth : xJ 177 = (⟨"MirrorHeirsModel", "readBoth", "(I)V"⟩, (prog_14_method_55_code, (2, (none, (0, 0))))) := rfl
theorem xj_X12_readClause : xJ 178 = (⟨"MirrorHeirsModel", "readClause", "()V"⟩, (prog_14_method_51_code, (1, (none, (0, 0))))) := rfl
theorem xj_X12_readOne : xJ 179 = (⟨"MirrorHeirsModel", "readOne", "()V"⟩, (prog_14_method_53_code, (1, (none, (0, 0))))) := rfl
theorem xj_X12_readOrder : xJ 180 = (⟨"MirrorHeirsModel", "readOrder", "()V"⟩, (prog_14_method_52_code, (1, (none, (0, 0))))) := rfl
theorem xj_X12_readPart : xJ 181 = (⟨"MirrorHeirsModel", "readPart", "(I)V"⟩, (prog_14_method_59_code, (3, (none, (0, 0))))) := rfl
theorem xj_X12_readPlain : xJ 182 = (⟨"MirrorHeirsModel", "readPlain", "(I)V"⟩, (prog_14_method_56_code, (4, (none, (0, 0))))) := rfl
theorem xj_X12_readSum : xJ 183 = (⟨"MirrorHeirsModel", "readSum", "(I)V"⟩, (prog_14_method_57_code, (2, (none, (0, 0))))) := rfl
theorem xj_X12_readTerm : xJ 184 = (⟨"MirrorHeirsModel", "readTerm", "(I)V"⟩, (prog_14_method_58_code, (2, (none, (0, 0))))) := rfl
theorem xj_X12_readTest : xJ 185 = (⟨"MirrorHeirsModel", "readTest", "(I)V"⟩, (prog_14_method_54_code, (2, (none, (0, 0))))) := rfl
theorem xj_X12_reads : xJ 186 = (⟨"MirrorHeirsModel", "reads", "()Z"⟩, (prog_14_method_60_code, (2, ((some (.boolean)), (0, 0))))) := rfl
theorem xj_X12_readsAs : xJ 187 = (⟨"MirrorHeirsModel", "readsAs", "(Z)Z"⟩, (prog_14_method_61_code, (2, ((some (.boolean)), (0, 0))))) := rfl
theorem xj_X12_refuses : xJ 188 = (⟨"MirrorHeirsModel", "refuses", "(I)I"⟩, (prog_14_method_2_code, (2, ((some (.int)), (0, 0))))) := rfl
theorem xj_X12_rentNow : xJ 189 = (⟨"MirrorHeirsModel", "rentNow", "()I"⟩, (prog_14_method_97_code, (3, ((some (.int)), (0, 0))))) := rfl
theorem xj_X12_reveal : xJ 190 = (⟨"MirrorHeirsModel", "reveal", "(IIII)I"⟩, (prog_14_method_109_code, (11, ((some (.int)), (0, 0))))) := rfl
theorem xj_X12_rises : xJ 191 = (⟨"MirrorHeirsModel", "rises", "(I)Z"⟩, (prog_14_method_79_code, (1, ((some (.boolean)), (0, 0))))) := rfl
theorem xj_X12_row : xJ 192 = (⟨"MirrorHeirsModel", "row", "()I"⟩, (prog_14_method_36_code, (5, ((some (.int)), (0, 0))))) := rfl
theorem xj_X12_runs : xJ 193 = (⟨"MirrorHeirsModel", "runs", "(I)Z"⟩, (prog_14_method_120_code, (5, ((some (.boolean)), (0, 0))))) := rfl
theorem xj_X12_setsOrder : xJ 194 = (⟨"MirrorHeirsModel", "setsOrder", "(I)V"⟩, (prog_14_method_118_code, (4, (none, (0, 0))))) := rfl
theorem xj_X12_sign : xJ 195 = (⟨"MirrorHeirsModel", "sign", "(C)I"⟩, (prog_14_method_49_code, (1, ((some (.int)), (0, 0))))) := rfl
theorem xj_X12_splits : xJ 196 = (⟨"MirrorHeirsModel", "splits", "(I)V"⟩, (prog_14_method_43_code, (6, (none, (0, 0))))) := rfl
theorem xj_X12_stand : xJ 197 = (⟨"MirrorHeirsModel", "stand", "(II)I"⟩, (prog_14_method_99_code, (4, ((some (.int)), (0, 0))))) := rfl
theorem xj_X12_standsBy : xJ 198 = (⟨"MirrorHeirsModel", "standsBy", "(I)I"⟩, (prog_14_method_100_code, (10, ((some (.int)), (0, 0))))) := rfl
theorem xj_X12_status : xJ 199 = (⟨"MirrorHeirsModel", "status", "()I"⟩, (prog_14_method_127_code, (1, ((some (.int)), (0, 0))))) := rfl
theorem xj_X12_stopped : xJ 200 = (⟨"MirrorHeirsModel", "stopped", "()I"⟩, (prog_14_method_116_code, (1, ((some (.int)), (0, 0))))) := rfl
theorem xj_X12_stranger : xJ 201 = (⟨"MirrorHeirsModel", "stranger", "(I)I"⟩, (prog_14_method_106_code, (6, ((some (.int)), (0, 0))))) := rfl
theorem xj_X12_sumOf : xJ 202 = (⟨"MirrorHeirsModel", "sumOf", "(Z)J"⟩, (prog_14_method_69_code, (7, ((some (.long)), (0, 0))))) := rfl
theorem xj_X12_takes0 : xJ 203 = (⟨"MirrorHeirsModel", "takes0", "(I)Z"⟩, (prog_14_method_46_code, (3, ((some (.boolean)), (0, 0))))) := rfl
theorem xj_X12_takesKind : xJ 204 = (⟨"MirrorHeirsModel", "takesKind", "(II)V"⟩, (prog_14_method_17_code, (5, (none, (0, 0))))) := rfl
theorem xj_X12_telling : xJ 205 = (⟨"MirrorHeirsModel", "telling", "(III)I"⟩, (prog_14_method_101_code, (5, ((some (.int)), (0, 0))))) := rfl
theorem xj_X12_termOf : xJ 206 = (⟨"MirrorHeirsModel", "termOf", "(Z)J"⟩, (prog_14_method_70_code, (7, ((some (.long)), (0, 0))))) := rfl
theorem xj_X12_terms : xJ 207 = (⟨"MirrorHeirsModel", "terms", "(II)I"⟩, (prog_14_method_35_code, (4, ((some (.int)), (0, 0))))) := rfl
theorem xj_X12_testOf : xJ 208 = (⟨"MirrorHeirsModel", "testOf", "(Z)Z"⟩, (prog_14_method_72_code, (4, ((some (.boolean)), (0, 0))))) := rfl
theorem xj_X12_thing : xJ 209 = (⟨"MirrorHeirsModel", "thing", "(III)I"⟩, (prog_14_method_33_code, (5, ((some (.int)), (0, 0))))) := rfl
theorem xj_X12_thingAt : xJ 210 = (⟨"MirrorHeirsModel", "thingAt", "(I)I"⟩, (prog_14_method_16_code, (2, ((some (.int)), (0, 0))))) := rfl
theorem xj_X12_told : xJ 211 = (⟨"MirrorHeirsModel", "told", "(III)I"⟩, (prog_14_method_76_code, (11, ((some (.int)), (0, 0))))) := rfl
theorem xj_X12_turn : xJ 212 = (⟨"MirrorHeirsModel", "turn", "(I)I"⟩, (prog_14_method_26_code, (2, ((some (.int)), (0, 0))))) := rfl
theorem xj_X12_turned : xJ 213 = (⟨"MirrorHeirsModel", "turned", "(I)I"⟩, (prog_14_method_104_code, (6, ((some (.int)), (0, 0))))) := rfl
theorem xj_X12_turns : xJ 214 = (⟨"MirrorHeirsModel", "turns", "(I)V"⟩, (prog_14_method_25_code, (2, (none, (0, 0))))) := rfl
theorem xj_X12_turnsKept : xJ 215 = (⟨"MirrorHeirsModel", "turnsKept", "(I)V"⟩, (prog_14_method_30_code, (2, (none, (0, 0))))) := rfl
theorem xj_X12_turnsSet : xJ 216 = (⟨"MirrorHeirsModel", "turnsSet", "(I)V"⟩, (prog_14_method_102_code, (3, (none, (0, 0))))) := rfl
theorem xj_X12_turnsThen : xJ 217 = (⟨"MirrorHeirsModel", "turnsThen", "(II)I"⟩, (prog_14_method_113_code, (7, ((some (.int)), (0, 0))))) := rfl
theorem xj_X12_undo : xJ 218 = (⟨"MirrorHeirsModel", "undo", "()I"⟩, (prog_14_method_32_code, (3, ((some (.int)), (0, 0))))) := rfl
theorem xj_X12_views : xJ 219 = (⟨"MirrorHeirsModel", "views", "(I)I"⟩, (prog_14_method_87_code, (2, ((some (.int)), (0, 0))))) := rfl
theorem xj_X12_viewsFrom : xJ 220 = (⟨"MirrorHeirsModel", "viewsFrom", "(I)I"⟩, (prog_14_method_86_code, (4, ((some (.int)), (0, 0))))) := rfl
theorem xj_X12_wordOf : xJ 221 = (⟨"MirrorHeirsModel", "wordOf", "(II)I"⟩, (prog_14_method_42_code, (8, ((some (.int)), (0, 0))))) := rfl
theorem xj_X1_addLaw : xJ 222 = (⟨"MirrorHeirs$Hall", "addLaw", "(LMirrorHeirs$Text;)I"⟩, (prog_3_method_10_code, (2, ((some (.int)), (0, 0))))) := rfl
theorem xj_X1_copy : xJ 223 = (⟨"MirrorHeirs$Hall", "copy", "(LMirrorHeirs$Hall;)V"⟩, (prog_3_method_12_code, (3, (none, (0, 0))))) := rfl
theorem xj_X1_flip : xJ 224 = (⟨"MirrorHeirs$Hall", "flip", "(I)V"⟩, (prog_3_method_6_code, (3, (none, (0, 0))))) := rfl
theorem xj_X1_flipAll : xJ 225 = (⟨"MirrorHeirs$Hall", "flipAll", "(I)V"⟩, (prog_3_method_7_code, (3, (none, (0, 0))))) := rfl
theorem xj_X1_init : xJ 226 = (⟨"MirrorHeirs$Hall", "<init>", "()V"⟩, (prog_3_method_1_code, (1, (none, (15, 529))))) := rfl
theorem xj_X1_kindAt : xJ 227 = (⟨"MirrorHeirs$Hall", "kindAt", "(I)I"⟩, (prog_3_method_2_code, (2, ((some (.int)), (0, 0))))) := rfl
theorem xj_X1_lawInForce : xJ 228 = (⟨"MirrorHeirs$Hall", "lawInForce", "()LMirrorHeirs$Text;"⟩, (prog_3_method_11_code, (1, ((some (.object "MirrorHeirs$Text")), (0, 0))))) := rfl
theorem xj_X1_lay : xJ 229 = (⟨"MirrorHeirs$Hall", "lay", "(II)V"⟩, (prog_3_method_5_code, (3, (none, (0, 0))))) := rfl
theorem xj_X1_mayLay : xJ 230 = (⟨"MirrorHeirs$Hall", "mayLay", "(II)Z"⟩, (prog_3_method_4_code, (3, ((some (.boolean)), (0, 0))))) := rfl
theorem xj_X1_setKind : xJ 231 = (⟨"MirrorHeirs$Hall", "setKind", "(II)V"⟩, (prog_3_method_3_code, (3, (none, (0, 0))))) := rfl
theorem xj_X1_setTerm : xJ 232 = (⟨"MirrorHeirs$Hall", "setTerm", "(II)V"⟩, (prog_3_method_9_code, (3, (none, (0, 0))))) := rfl
theorem xj_X1_term : xJ 233 = (⟨"MirrorHeirs$Hall", "term", "(I)I"⟩, (prog_3_method_8_code, (2, ((some (.int)), (0, 0))))) := rfl
theorem xj_X2_cover : xJ 234 = (⟨"MirrorHeirs$Places", "cover", "(IIJJ)V"⟩, (prog_4_method_4_code, (10, (none, (0, 0))))) := rfl
theorem xj_X2_coverAll : xJ 235 = (⟨"MirrorHeirs$Places", "coverAll", "(I)V"⟩, (prog_4_method_2_code, (3, (none, (0, 0))))) := rfl
theorem xj_X2_firstCell : xJ 236 = (⟨"MirrorHeirs$Places", "firstCell", "(I)I"⟩, (prog_4_method_6_code, (2, ((some (.int)), (0, 0))))) := rfl
theorem xj_X2_group : xJ 237 = (⟨"MirrorHeirs$Places", "group", "(II)V"⟩, (prog_4_method_3_code, (4, (none, (0, 0))))) := rfl
theorem xj_X2_hidingCells : xJ 238 = (⟨"MirrorHeirs$Places", "hidingCells", "(II)J"⟩, (prog_4_method_8_code, (8, ((some (.long)), (0, 0))))) := rfl
theorem xj_X2_init : xJ 239 = (⟨"MirrorHeirs$Places", "<init>", "(LMirrorHeirs$Hall;LMirrorHeirs$Sight;)V"⟩, (prog_4_method_1_code, (3, (none, (3, 192))))) := rfl
theorem xj_X2_pairsBehind : xJ 240 = (⟨"MirrorHeirs$Places", "pairsBehind", "(I)I"⟩, (prog_4_method_9_code, (6, ((some (.int)), (0, 0))))) := rfl
theorem xj_X2_rest : xJ 241 = (⟨"MirrorHeirs$Places", "rest", "(IJJ)V"⟩, (prog_4_method_5_code, (15, (none, (0, 0))))) := rfl
theorem xj_X2_strangerCells : xJ 242 = (⟨"MirrorHeirs$Places", "strangerCells", "()J"⟩, (prog_4_method_7_code, (6, ((some (.long)), (0, 0))))) := rfl
theorem xj_X3_advance : xJ 243 = (⟨"MirrorHeirs$Reader", "advance", "()V"⟩, (prog_5_method_23_code, (3, (none, (0, 0))))) := rfl
theorem xj_X3_begin : xJ 244 = (⟨"MirrorHeirs$Reader", "begin", "(IZ)V"⟩, (prog_5_method_4_code, (3, (none, (0, 0))))) := rfl
theorem xj_X3_both : xJ 245 = (⟨"MirrorHeirs$Reader", "both", "()V"⟩, (prog_5_method_11_code, (3, (none, (0, 0))))) := rfl
theorem xj_X3_byteAt : xJ 246 = (⟨"MirrorHeirs$Reader", "byteAt", "(I)I"⟩, (prog_5_method_24_code, (2, ((some (.int)), (0, 0))))) := rfl
theorem xj_X3_clause : xJ 247 = (⟨"MirrorHeirs$Reader", "clause", "(I)V"⟩, (prog_5_method_7_code, (2, (none, (0, 0))))) := rfl
theorem xj_X3_closes : xJ 248 = (⟨"MirrorHeirs$Reader", "closes", "(Ljava/lang/String;)V"⟩, (prog_5_method_20_code, (2, (none, (0, 0))))) := rfl
theorem xj_X3_condition : xJ 249 = (⟨"MirrorHeirs$Reader", "condition", "(I)V"⟩, (prog_5_method_9_code, (2, (none, (0, 0))))) := rfl
theorem xj_X3_fail : xJ 250 = (⟨"MirrorHeirs$Reader", "fail", "()I"⟩, (prog_5_method_6_code, (1, ((some (.int)), (0, 0))))) := rfl
theorem xj_X3_finish : xJ 251 = (⟨"MirrorHeirs$Reader", "finish", "()I"⟩, (prog_5_method_5_code, (1, ((some (.int)), (0, 0))))) := rfl
theorem xj_X3_init : xJ 252 = (⟨"MirrorHeirs$Reader", "<init>", "([I)V"⟩, (prog_5_method_1_code, (2, (none, (4, 482))))) := rfl
theorem xj_X3_is : xJ 253 = (⟨"MirrorHeirs$Reader", "is", "(Ljava/lang/String;)Z"⟩, (prog_5_method_22_code, (3, ((some (.boolean)), (0, 0))))) := rfl
theorem xj_X3_isDigit : xJ 254 = (⟨"MirrorHeirs$Reader", "isDigit", "(I)Z"⟩, (prog_5_method_26_code, (1, ((some (.boolean)), (0, 0))))) := rfl
theorem xj_X3_isLetter : xJ 255 = (⟨"MirrorHeirs$Reader", "isLetter", "(I)Z"⟩, (prog_5_method_25_code, (1, ((some (.boolean)), (0, 0))))) := rfl
theorem xj_X3_lawWord : xJ 256 = (⟨"MirrorHeirs$Reader", "lawWord", "()I"⟩, (prog_5_method_16_code, (1, ((some (.int)), (0, 0))))) := rfl
theorem xj_X3_opens : xJ 257 = (⟨"MirrorHeirs$Reader", "opens", "(Ljava/lang/String;)Z"⟩, (prog_5_method_19_code, (2, ((some (.boolean)), (0, 0))))) := rfl
theorem xj_X3_order : xJ 258 = (⟨"MirrorHeirs$Reader", "order", "(I)V"⟩, (prog_5_method_8_code, (2, (none, (0, 0))))) := rfl
theorem xj_X3_orderWord : xJ 259 = (⟨"MirrorHeirs$Reader", "orderWord", "()I"⟩, (prog_5_method_17_code, (2, ((some (.int)), (0, 0))))) := rfl
theorem xj_X3_part : xJ 260 = (⟨"MirrorHeirs$Reader", "part", "()V"⟩, (prog_5_method_15_code, (4, (none, (0, 0))))) := rfl
theorem xj_X3_plain : xJ 261 = (⟨"MirrorHeirs$Reader", "plain", "()V"⟩, (prog_5_method_12_code, (3, (none, (0, 0))))) := rfl
theorem xj_X3_readLaw : xJ 262 = (⟨"MirrorHeirs$Reader", "readLaw", "(I)I"⟩, (prog_5_method_2_code, (3, ((some (.int)), (0, 0))))) := rfl
theorem xj_X3_readOrders : xJ 263 = (⟨"MirrorHeirs$Reader", "readOrders", "(I)I"⟩, (prog_5_method_3_code, (3, ((some (.int)), (0, 0))))) := rfl
theorem xj_X3_sum : xJ 264 = (⟨"MirrorHeirs$Reader", "sum", "()V"⟩, (prog_5_method_13_code, (3, (none, (0, 0))))) := rfl
theorem xj_X3_take : xJ 265 = (⟨"MirrorHeirs$Reader", "take", "(Ljava/lang/String;)Z"⟩, (prog_5_method_21_code, (2, ((some (.boolean)), (0, 0))))) := rfl
theorem xj_X3_term : xJ 266 = (⟨"MirrorHeirs$Reader", "term", "()V"⟩, (prog_5_method_14_code, (3, (none, (0, 0))))) := rfl
theorem xj_X3_test : xJ 267 = (⟨"MirrorHeirs$Reader", "test", "()V"⟩, (prog_5_method_10_code, (3, (none, (0, 0))))) := rfl
theorem xj_X3_written : xJ 268 = (⟨"MirrorHeirs$Reader", "written", "(II)I"⟩, (prog_5_method_18_code, (4, ((some (.int)), (0, 0))))) := rfl
theorem xj_X4_add : xJ 269 = (⟨"MirrorHeirs$Rows", "add", "(III)I"⟩, (prog_6_method_5_code, (5, ((some (.int)), (0, 0))))) := rfl
theorem xj_X4_clear : xJ 270 = (⟨"MirrorHeirs$Rows", "clear", "()V"⟩, (prog_6_method_7_code, (1, (none, (0, 0))))) := rfl
theorem xj_X4_copy : xJ 271 = (⟨"MirrorHeirs$Rows", "copy", "(LMirrorHeirs$Rows;)V"⟩, (prog_6_method_9_code, (4, (none, (0, 0))))) := rfl
theorem xj_X4_drop : xJ 272 = (⟨"MirrorHeirs$Rows", "drop", "(I)V"⟩, (prog_6_method_6_code, (3, (none, (0, 0))))) := rfl
theorem xj_X4_find : xJ 273 = (⟨"MirrorHeirs$Rows", "find", "(I)I"⟩, (prog_6_method_8_code, (3, ((some (.int)), (0, 0))))) := rfl
theorem xj_X4_get : xJ 274 = (⟨"MirrorHeirs$Rows", "get", "(II)I"⟩, (prog_6_method_3_code, (4, ((some (.int)), (0, 0))))) := rfl
theorem xj_X4_has : xJ 275 = (⟨"MirrorHeirs$Rows", "has", "(I)Z"⟩, (prog_6_method_2_code, (2, ((some (.boolean)), (0, 0))))) := rfl
theorem xj_X4_init : xJ 276 = (⟨"MirrorHeirs$Rows", "<init>", "(II)V"⟩, (prog_6_method_1_code, (3, (none, (1, 72))))) := rfl
theorem xj_X4_set : xJ 277 = (⟨"MirrorHeirs$Rows", "set", "(III)V"⟩, (prog_6_method_4_code, (5, (none, (0, 0))))) := rfl
theorem xj_X5_argue : xJ 278 = (⟨"MirrorHeirs$Sets", "argue", "()Z"⟩, (prog_7_method_19_code, (6, ((some (.boolean)), (0, 0))))) := rfl
theorem xj_X5_cheapest : xJ 279 = (⟨"MirrorHeirs$Sets", "cheapest", "(III)I"⟩, (prog_7_method_17_code, (7, ((some (.int)), (0, 0))))) := rfl
theorem xj_X5_estateIn : xJ 280 = (⟨"MirrorHeirs$Sets", "estateIn", "(II)I"⟩, (prog_7_method_8_code, (4, ((some (.int)), (0, 0))))) := rfl
theorem xj_X5_estatesIn : xJ 281 = (⟨"MirrorHeirs$Sets", "estatesIn", "(I)V"⟩, (prog_7_method_6_code, (5, (none, (0, 0))))) := rfl
theorem xj_X5_fewestBits : xJ 282 = (⟨"MirrorHeirs$Sets", "fewestBits", "()I"⟩, (prog_7_method_16_code, (2, ((some (.int)), (0, 0))))) := rfl
theorem xj_X5_fitCount : xJ 283 = (⟨"MirrorHeirs$Sets", "fitCount", "()I"⟩, (prog_7_method_14_code, (3, ((some (.int)), (0, 0))))) := rfl
theorem xj_X5_fitPeace : xJ 284 = (⟨"MirrorHeirs$Sets", "fitPeace", "()V"⟩, (prog_7_method_12_code, (3, (none, (0, 0))))) := rfl
theorem xj_X5_fitTellings : xJ 285 = (⟨"MirrorHeirs$Sets", "fitTellings", "()V"⟩, (prog_7_method_11_code, (4, (none, (0, 0))))) := rfl
theorem xj_X5_glimpseIn : xJ 286 = (⟨"MirrorHeirs$Sets", "glimpseIn", "(II)V"⟩, (prog_7_method_4_code, (6, (none, (0, 0))))) := rfl
theorem xj_X5_init : xJ 287 = (⟨"MirrorHeirs$Sets", "<init>", "(LMirrorHeirs$Hall;LMirrorHeirs$Sight;LMirrorHeirs$Shares;)V"⟩, (prog_7_method_1_code, (4, (none, (6, 4096))))) := rfl
theorem xj_X5_lightIn : xJ 288 = (⟨"MirrorHeirs$Sets", "lightIn", "(I)V"⟩, (prog_7_method_5_code, (2, (none, (0, 0))))) := rfl
theorem xj_X5_lowestOfFewest : xJ 289 = (⟨"MirrorHeirs$Sets", "lowestOfFewest", "()I"⟩, (prog_7_method_15_code, (3, ((some (.int)), (0, 0))))) := rfl
theorem xj_X5_prepare : xJ 290 = (⟨"MirrorHeirs$Sets", "prepare", "()V"⟩, (prog_7_method_3_code, (5, (none, (0, 0))))) := rfl
theorem xj_X5_priceOf : xJ 291 = (⟨"MirrorHeirs$Sets", "priceOf", "(I)I"⟩, (prog_7_method_18_code, (4, ((some (.int)), (0, 0))))) := rfl
theorem xj_X5_sameAs : xJ 292 = (⟨"MirrorHeirs$Sets", "sameAs", "(I)I"⟩, (prog_7_method_7_code, (8, ((some (.int)), (0, 0))))) := rfl
theorem xj_X5_setCount : xJ 293 = (⟨"MirrorHeirs$Sets", "setCount", "()I"⟩, (prog_7_method_2_code, (1, ((some (.int)), (0, 0))))) := rfl
theorem xj_X5_trace : xJ 294 = (⟨"MirrorHeirs$Sets", "trace", "(II)V"⟩, (prog_7_method_9_code, (7, (none, (0, 0))))) := rfl
theorem xj_X5_traced : xJ 295 = (⟨"MirrorHeirs$Sets", "traced", "(I)I"⟩, (prog_7_method_10_code, (2, ((some (.int)), (0, 0))))) := rfl
theorem xj_X5_wish : xJ 296 = (⟨"MirrorHeirs$Sets", "wish", "(II)I"⟩, (prog_7_method_13_code, (6, ((some (.int)), (0, 0))))) := rfl
theorem xj_X6_asked : xJ 297 = (⟨"MirrorHeirs$Shares", "asked", "(II)I"⟩, (prog_8_method_10_code, (10, ((some (.int)), (0, 0))))) := rfl
theorem xj_X6_claimants : xJ 298 = (⟨"MirrorHeirs$Shares", "claimants", "(I)I"⟩, (prog_8_method_14_code, (4, ((some (.int)), (0, 0))))) := rfl
theorem xj_X6_claimed : xJ 299 = (⟨"MirrorHeirs$Shares", "claimed", "(II)I"⟩, (prog_8_method_12_code, (4, ((some (.int)), (0, 0))))) := rfl
theorem xj_X6_describe : xJ 300 = (⟨"MirrorHeirs$Shares", "describe", "(II)V"⟩, (prog_8_method_11_code, (4, (none, (0, 0))))) := rfl
theorem xj_X6_divide : xJ 301 = (⟨"MirrorHeirs$Shares", "divide", "()V"⟩, (prog_8_method_9_code, (4, (none, (0, 0))))) := rfl
theorem xj_X6_estateOf : xJ 302 = (⟨"MirrorHeirs$Shares", "estateOf", "(I)I"⟩, (prog_8_method_15_code, (2, ((some (.int)), (0, 0))))) := rfl
theorem xj_X6_inPair : xJ 303 = (⟨"MirrorHeirs$Shares", "inPair", "(I)Z"⟩, (prog_8_method_8_code, (3, ((some (.boolean)), (0, 0))))) := rfl
theorem xj_X6_init : xJ 304 = (⟨"MirrorHeirs$Shares", "<init>", "(LMirrorHeirs$Hall;LMirrorHeirs$Sight;)V"⟩, (prog_8_method_1_code, (3, (none, (7, 244))))) := rfl
theorem xj_X6_kindle : xJ 305 = (⟨"MirrorHeirs$Shares", "kindle", "(LMirrorHeirs$Rows;)V"⟩, (prog_8_method_2_code, (3, (none, (0, 0))))) := rfl
theorem xj_X6_measure : xJ 306 = (⟨"MirrorHeirs$Shares", "measure", "()V"⟩, (prog_8_method_4_code, (2, (none, (0, 0))))) := rfl
theorem xj_X6_metPivots : xJ 307 = (⟨"MirrorHeirs$Shares", "metPivots", "()I"⟩, (prog_8_method_6_code, (3, ((some (.int)), (0, 0))))) := rfl
theorem xj_X6_packed : xJ 308 = (⟨"MirrorHeirs$Shares", "packed", "()J"⟩, (prog_8_method_5_code, (6, ((some (.long)), (0, 0))))) := rfl
theorem xj_X6_rent : xJ 309 = (⟨"MirrorHeirs$Shares", "rent", "()I"⟩, (prog_8_method_3_code, (3, ((some (.int)), (0, 0))))) := rfl
theorem xj_X6_seenBy : xJ 310 = (⟨"MirrorHeirs$Shares", "seenBy", "(II)I"⟩, (prog_8_method_7_code, (3, ((some (.int)), (0, 0))))) := rfl
theorem xj_X6_total : xJ 311 = (⟨"MirrorHeirs$Shares", "total", "(I)I"⟩, (prog_8_method_13_code, (2, ((some (.int)), (0, 0))))) := rfl
theorem xj_X7_along : xJ 312 = (⟨"MirrorHeirs$Sight", "along", "(III)I"⟩, (prog_9_method_9_code, (11, ((some (.int)), (0, 0))))) := rfl
theorem xj_X7_begin : xJ 313 = (⟨"MirrorHeirs$Sight", "begin", "(I)V"⟩, (prog_9_method_3_code, (3, (none, (0, 0))))) := rfl
theorem xj_X7_comesTo : xJ 314 = (⟨"MirrorHeirs$Sight", "comesTo", "(III)Z"⟩, (prog_9_method_5_code, (5, ((some (.boolean)), (0, 0))))) := rfl
theorem xj_X7_fogged : xJ 315 = (⟨"MirrorHeirs$Sight", "fogged", "(II)Z"⟩, (prog_9_method_11_code, (6, ((some (.boolean)), (0, 0))))) := rfl
theorem xj_X7_fromAny : xJ 316 = (⟨"MirrorHeirs$Sight", "fromAny", "(LMirrorHeirs$Rows;I)I"⟩, (prog_9_method_8_code, (6, ((some (.int)), (0, 0))))) := rfl
theorem xj_X7_init : xJ 317 = (⟨"MirrorHeirs$Sight", "<init>", "(LMirrorHeirs$Hall;)V"⟩, (prog_9_method_1_code, (2, (none, (7, 2008))))) := rfl
theorem xj_X7_look : xJ 318 = (⟨"MirrorHeirs$Sight", "look", "(I)V"⟩, (prog_9_method_2_code, (9, (none, (0, 0))))) := rfl
theorem xj_X7_seenAt : xJ 319 = (⟨"MirrorHeirs$Sight", "seenAt", "(I)I"⟩, (prog_9_method_6_code, (2, ((some (.int)), (0, 0))))) := rfl
theorem xj_X7_send : xJ 320 = (⟨"MirrorHeirs$Sight", "send", "(III)V"⟩, (prog_9_method_4_code, (4, (none, (0, 0))))) := rfl
theorem xj_X7_settleFog : xJ 321 = (⟨"MirrorHeirs$Sight", "settleFog", "()V"⟩, (prog_9_method_10_code, (3, (none, (0, 0))))) := rfl
theorem xj_X7_thingsSeen : xJ 322 = (⟨"MirrorHeirs$Sight", "thingsSeen", "()I"⟩, (prog_9_method_7_code, (3, ((some (.int)), (0, 0))))) := rfl
theorem xj_X8_combined : xJ 323 = (⟨"MirrorHeirs$Slate", "combined", "(IJJ)I"⟩, (prog_10_method_4_code, (7, ((some (.int)), (0, 0))))) := rfl
theorem xj_X8_init : xJ 324 = (⟨"MirrorHeirs$Slate", "<init>", "(II)V"⟩, (prog_10_method_1_code, (4, (none, (2, 146))))) := rfl
theorem xj_X8_set : xJ 325 = (⟨"MirrorHeirs$Slate", "set", "(II)V"⟩, (prog_10_method_2_code, (3, (none, (0, 0))))) := rfl
theorem xj_X8_value : xJ 326 = (⟨"MirrorHeirs$Slate", "value", "(LMirrorHeirs$Text;II)I"⟩, (prog_10_method_3_code, (9, ((some (.int)), (0, 0))))) := rfl
theorem xj_X9_aimHere : xJ 327 = (⟨"MirrorHeirs$Text", "aimHere", "(I)V"⟩, (prog_11_method_4_code, (2, (none, (0, 0))))) := rfl
theorem xj_X9_clear : xJ 328 = (⟨"MirrorHeirs$Text", "clear", "()V"⟩, (prog_11_method_2_code, (1, (none, (0, 0))))) := rfl
theorem xj_X9_emit : xJ 329 = (⟨"MirrorHeirs$Text", "emit", "(II)I"⟩, (prog_11_method_3_code, (3, ((some (.int)), (0, 0))))) := rfl
theorem xj_X9_init : xJ 330 = (⟨"MirrorHeirs$Text", "<init>", "(I)V"⟩, (prog_11_method_1_code, (2, (none, (3, 476))))) := rfl
theorem xj_X9_trimmed : xJ 331 = (⟨"MirrorHeirs$Text", "trimmed", "()LMirrorHeirs$Text;"⟩, (prog_11_method_5_code, (3, ((some (.object "MirrorHeirs$Text")), (4, 482))))) := rfl
