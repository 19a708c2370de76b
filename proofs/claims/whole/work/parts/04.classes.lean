/-- the good words of the tables -/
def fx_g : List Cond := lw_tbl.filter goodWord
theorem fx_gok : ∀ w ∈ fx_g, goodWord w = true := fun w h => (List.mem_filter.mp h).2
theorem fx_in {w : Cond} (i : Nat) (h : tables_1[i]? = some w) (hg : goodWord w = true) : w ∈ fx_g := List.mem_filter.mpr ⟨List.mem_append_right _ (List.mem_of_getElem? h), hg⟩
theorem fx_inp {w : Cond} (i : Nat) (h : (k2_sels lw_privs)[i]? = some w) (hg : goodWord w = true) : w ∈ fx_g := List.mem_filter.mpr ⟨List.mem_append_left _ (List.mem_of_getElem? h), hg⟩
theorem fx_ins {ws : List Cond} (idx : List Nat) (h : ws = idx.filterMap (fun i => tables_1[i]?)) (hg : ws.all goodWord = true) : ∀ w ∈ ws, w ∈ fx_g := fun w hw => by
  have h1 := List.all_eq_true.mp hg w hw
  rw [h] at hw
  obtain ⟨i, -, hi⟩ := List.mem_filterMap.mp hw
  exact fx_in i hi h1
def T_FixityTrees : u_T := fun k => match k with
  | 0 => ("FixityTrees", "scopes", "LFixityTrees$Scopes;", true)
  | 1 => ("FixityTrees", "fixities", "LFixityTrees$Fixities;", true)
  | 2 => ("FixityTrees", "row", "LFixityTrees$Row;", true)
  | 3 => ("FixityTrees", "resolver", "LFixityTrees$Resolver;", true)
  | 4 => ("FixityTrees", "tree", "LFixityTrees$Tree;", true)
  | 5 => ("FixityTrees", "trial", "LFixityTrees$Tree;", true)
  | 6 => ("FixityTrees", "latest", "LFixityTrees$Written;", true)
  | 7 => ("FixityTrees", "clashKind", "I", false)
  | 8 => ("FixityTrees", "clashWaiting", "I", false)
  | 9 => ("FixityTrees", "clashOther", "I", false)
  | _ => ("FixityTrees", "mostWaiting", "I", false)
def t_FixityTrees : Nat → FieldType := fun k => match k with
  | 0 => .object "FixityTrees$Scopes"
  | 1 => .object "FixityTrees$Fixities"
  | 2 => .object "FixityTrees$Row"
  | 3 => .object "FixityTrees$Resolver"
  | 4 => .object "FixityTrees$Tree"
  | 5 => .object "FixityTrees$Tree"
  | 6 => .object "FixityTrees$Written"
  | 7 => .int
  | 8 => .int
  | 9 => .int
  | _ => .int
theorem n_FixityTrees : ∀ a, a < 11 → ∀ b, b < 11 → a ≠ b → (T_FixityTrees a).2.1 ≠ (T_FixityTrees b).2.1 := by decide +kernel
theorem t_FixityTrees_ok : ∀ k, k < 11 → parseFieldDescriptor (T_FixityTrees k).2.2.1 = some (t_FixityTrees k) := by decide +kernel
theorem in_FixityTrees : ∀ w ∈ u_ws "FixityTrees" T_FixityTrees 11, w ∈ fx_g := fx_ins [232, 234, 236, 238, 240, 242, 244, 246, 248, 250, 252] (by decide +kernel) (by decide +kernel)
def T_Scopes : u_T := fun k => match k with
  | 0 => ("FixityTrees$Scopes", "outers", "[I", true)
  | 1 => ("FixityTrees$Scopes", "codes", "[I", true)
  | _ => ("FixityTrees$Scopes", "size", "I", false)
def t_Scopes : Nat → FieldType := fun k => match k with
  | 0 => .array .int
  | 1 => .array .int
  | _ => .int
theorem n_Scopes : ∀ a, a < 3 → ∀ b, b < 3 → a ≠ b → (T_Scopes a).2.1 ≠ (T_Scopes b).2.1 := by decide +kernel
theorem t_Scopes_ok : ∀ k, k < 3 → parseFieldDescriptor (T_Scopes k).2.2.1 = some (t_Scopes k) := by decide +kernel
theorem in_Scopes : ∀ w ∈ u_ws "FixityTrees$Scopes" T_Scopes 3, w ∈ fx_g := fx_ins [34, 36, 38] (by decide +kernel) (by decide +kernel)
def T_Fixities : u_T := fun k => match k with
  | 0 => ("FixityTrees$Fixities", "sides", "[I", true)
  | _ => ("FixityTrees$Fixities", "ranks", "[I", true)
def t_Fixities : Nat → FieldType := fun k => match k with
  | 0 => .array .int
  | _ => .array .int
theorem n_Fixities : ∀ a, a < 2 → ∀ b, b < 2 → a ≠ b → (T_Fixities a).2.1 ≠ (T_Fixities b).2.1 := by decide +kernel
theorem t_Fixities_ok : ∀ k, k < 2 → parseFieldDescriptor (T_Fixities k).2.2.1 = some (t_Fixities k) := by decide +kernel
theorem in_Fixities : ∀ w ∈ u_ws "FixityTrees$Fixities" T_Fixities 2, w ∈ fx_g := fx_ins [50, 52] (by decide +kernel) (by decide +kernel)
def T_Row : u_T := fun k => match k with
  | 0 => ("FixityTrees$Row", "kinds", "[I", true)
  | 1 => ("FixityTrees$Row", "nodeKinds", "[I", true)
  | 2 => ("FixityTrees$Row", "operators", "[I", true)
  | 3 => ("FixityTrees$Row", "numbers", "[J", true)
  | 4 => ("FixityTrees$Row", "rightSections", "[Z", true)
  | 5 => ("FixityTrees$Row", "size", "I", false)
  | 6 => ("FixityTrees$Row", "openSize", "I", false)
  | _ => ("FixityTrees$Row", "pattern", "Z", false)
def t_Row : Nat → FieldType := fun k => match k with
  | 0 => .array .int
  | 1 => .array .int
  | 2 => .array .int
  | 3 => .array .long
  | 4 => .array .boolean
  | 5 => .int
  | 6 => .int
  | _ => .boolean
theorem n_Row : ∀ a, a < 8 → ∀ b, b < 8 → a ≠ b → (T_Row a).2.1 ≠ (T_Row b).2.1 := by decide +kernel
theorem t_Row_ok : ∀ k, k < 8 → parseFieldDescriptor (T_Row k).2.2.1 = some (t_Row k) := by decide +kernel
theorem in_Row : ∀ w ∈ u_ws "FixityTrees$Row" T_Row 8, w ∈ fx_g := fx_ins [69, 71, 73, 75, 77, 79, 81, 83] (by decide +kernel) (by decide +kernel)
def T_Resolver : u_T := fun k => match k with
  | 0 => ("FixityTrees$Resolver", "row", "LFixityTrees$Row;", true)
  | 1 => ("FixityTrees$Resolver", "fixities", "LFixityTrees$Fixities;", true)
  | 2 => ("FixityTrees$Resolver", "waiting", "LFixityTrees$IntStack;", true)
  | 3 => ("FixityTrees$Resolver", "waitingBefore", "LFixityTrees$IntStack;", true)
  | 4 => ("FixityTrees$Resolver", "ready", "LFixityTrees$IntStack;", true)
  | 5 => ("FixityTrees$Resolver", "unnumbered", "LFixityTrees$IntStack;", true)
  | 6 => ("FixityTrees$Resolver", "firsts", "[I", true)
  | 7 => ("FixityTrees$Resolver", "seconds", "[I", true)
  | 8 => ("FixityTrees$Resolver", "sizes", "[I", true)
  | 9 => ("FixityTrees$Resolver", "heights", "[I", true)
  | 10 => ("FixityTrees$Resolver", "mostWaiting", "I", false)
  | 11 => ("FixityTrees$Resolver", "clashKind", "I", false)
  | 12 => ("FixityTrees$Resolver", "clashWaiting", "I", false)
  | _ => ("FixityTrees$Resolver", "clashOther", "I", false)
def t_Resolver : Nat → FieldType := fun k => match k with
  | 0 => .object "FixityTrees$Row"
  | 1 => .object "FixityTrees$Fixities"
  | 2 => .object "FixityTrees$IntStack"
  | 3 => .object "FixityTrees$IntStack"
  | 4 => .object "FixityTrees$IntStack"
  | 5 => .object "FixityTrees$IntStack"
  | 6 => .array .int
  | 7 => .array .int
  | 8 => .array .int
  | 9 => .array .int
  | 10 => .int
  | 11 => .int
  | 12 => .int
  | _ => .int
theorem n_Resolver : ∀ a, a < 14 → ∀ b, b < 14 → a ≠ b → (T_Resolver a).2.1 ≠ (T_Resolver b).2.1 := by decide +kernel
theorem t_Resolver_ok : ∀ k, k < 14 → parseFieldDescriptor (T_Resolver k).2.2.1 = some (t_Resolver k) := by decide +kernel
theorem in_Resolver : ∀ w ∈ u_ws "FixityTrees$Resolver" T_Resolver 14, w ∈ fx_g := fx_ins [121, 123, 125, 127, 129, 131, 133, 135, 137, 139, 141, 143, 145, 147] (by decide +kernel) (by decide +kernel)
def T_IntStack : u_T := fun k => match k with
  | 0 => ("FixityTrees$IntStack", "values", "[I", true)
  | _ => ("FixityTrees$IntStack", "size", "I", false)
def t_IntStack : Nat → FieldType := fun k => match k with
  | 0 => .array .int
  | _ => .int
theorem n_IntStack : ∀ a, a < 2 → ∀ b, b < 2 → a ≠ b → (T_IntStack a).2.1 ≠ (T_IntStack b).2.1 := by decide +kernel
theorem t_IntStack_ok : ∀ k, k < 2 → parseFieldDescriptor (T_IntStack k).2.2.1 = some (t_IntStack k) := by decide +kernel
theorem in_IntStack : ∀ w ∈ u_ws "FixityTrees$IntStack" T_IntStack 2, w ∈ fx_g := fx_ins [102, 104] (by decide +kernel) (by decide +kernel)
def T_Tree : u_T := fun k => match k with
  | 0 => ("FixityTrees$Tree", "kinds", "[I", true)
  | 1 => ("FixityTrees$Tree", "operators", "[I", true)
  | 2 => ("FixityTrees$Tree", "firsts", "[I", true)
  | 3 => ("FixityTrees$Tree", "seconds", "[I", true)
  | 4 => ("FixityTrees$Tree", "places", "[I", true)
  | 5 => ("FixityTrees$Tree", "numbers", "[J", true)
  | 6 => ("FixityTrees$Tree", "size", "I", false)
  | _ => ("FixityTrees$Tree", "height", "I", false)
def t_Tree : Nat → FieldType := fun k => match k with
  | 0 => .array .int
  | 1 => .array .int
  | 2 => .array .int
  | 3 => .array .int
  | 4 => .array .int
  | 5 => .array .long
  | 6 => .int
  | _ => .int
theorem n_Tree : ∀ a, a < 8 → ∀ b, b < 8 → a ≠ b → (T_Tree a).2.1 ≠ (T_Tree b).2.1 := by decide +kernel
theorem t_Tree_ok : ∀ k, k < 8 → parseFieldDescriptor (T_Tree k).2.2.1 = some (t_Tree k) := by decide +kernel
theorem in_Tree : ∀ w ∈ u_ws "FixityTrees$Tree" T_Tree 8, w ∈ fx_g := fx_ins [164, 166, 168, 170, 172, 174, 176, 178] (by decide +kernel) (by decide +kernel)
def T_Written : u_T := fun k => match k with
  | 0 => ("FixityTrees$Written", "tree", "LFixityTrees$Tree;", true)
  | 1 => ("FixityTrees$Written", "fixities", "LFixityTrees$Fixities;", true)
  | 2 => ("FixityTrees$Written", "kinds", "[I", true)
  | 3 => ("FixityTrees$Written", "operators", "[I", true)
  | 4 => ("FixityTrees$Written", "nodes", "[I", true)
  | 5 => ("FixityTrees$Written", "numbers", "[J", true)
  | 6 => ("FixityTrees$Written", "size", "I", false)
  | 7 => ("FixityTrees$Written", "mostOpen", "I", false)
  | 8 => ("FixityTrees$Written", "bracketed", "[Z", true)
  | 9 => ("FixityTrees$Written", "widths", "[I", true)
  | _ => ("FixityTrees$Written", "starts", "[I", true)
def t_Written : Nat → FieldType := fun k => match k with
  | 0 => .object "FixityTrees$Tree"
  | 1 => .object "FixityTrees$Fixities"
  | 2 => .array .int
  | 3 => .array .int
  | 4 => .array .int
  | 5 => .array .long
  | 6 => .int
  | 7 => .int
  | 8 => .array .boolean
  | 9 => .array .int
  | _ => .array .int
theorem n_Written : ∀ a, a < 11 → ∀ b, b < 11 → a ≠ b → (T_Written a).2.1 ≠ (T_Written b).2.1 := by decide +kernel
theorem t_Written_ok : ∀ k, k < 11 → parseFieldDescriptor (T_Written k).2.2.1 = some (t_Written k) := by decide +kernel
theorem in_Written : ∀ w ∈ u_ws "FixityTrees$Written" T_Written 11, w ∈ fx_g := fx_ins [198, 200, 202, 204, 206, 208, 210, 212, 214, 216, 218] (by decide +kernel) (by decide +kernel)
def T_Md : u_T := fun k => match k with
  | 0 => ("FixityTreesModel", "code", "I", false)
  | 1 => ("FixityTreesModel", "scopes", "I", false)
  | 2 => ("FixityTreesModel", "outer", "[I", true)
  | 3 => ("FixityTreesModel", "sides", "[I", true)
  | 4 => ("FixityTreesModel", "ranks", "[I", true)
  | 5 => ("FixityTreesModel", "count", "I", false)
  | 6 => ("FixityTreesModel", "isPattern", "Z", false)
  | 7 => ("FixityTreesModel", "kinds", "[I", true)
  | 8 => ("FixityTreesModel", "operators", "[I", true)
  | 9 => ("FixityTreesModel", "numbers", "[J", true)
  | 10 => ("FixityTreesModel", "opened", "I", false)
  | 11 => ("FixityTreesModel", "openAt", "[I", true)
  | 12 => ("FixityTreesModel", "treeSize", "I", false)
  | 13 => ("FixityTreesModel", "otherSize", "I", false)
  | 14 => ("FixityTreesModel", "nodeKind", "[I", true)
  | 15 => ("FixityTreesModel", "nodeOperator", "[I", true)
  | 16 => ("FixityTreesModel", "nodeFirst", "[I", true)
  | 17 => ("FixityTreesModel", "nodeSecond", "[I", true)
  | 18 => ("FixityTreesModel", "nodePlace", "[I", true)
  | 19 => ("FixityTreesModel", "nodeDeep", "[I", true)
  | 20 => ("FixityTreesModel", "nodeNumber", "[J", true)
  | 21 => ("FixityTreesModel", "deepest", "I", false)
  | 22 => ("FixityTreesModel", "clashKind", "I", false)
  | 23 => ("FixityTreesModel", "clashFirst", "I", false)
  | 24 => ("FixityTreesModel", "clashSecond", "I", false)
  | 25 => ("FixityTreesModel", "mostWaiting", "I", false)
  | 26 => ("FixityTreesModel", "group", "[I", true)
  | 27 => ("FixityTreesModel", "match", "[I", true)
  | 28 => ("FixityTreesModel", "waits", "[Z", true)
  | 29 => ("FixityTreesModel", "pile", "[I", true)
  | 30 => ("FixityTreesModel", "foundKind", "I", false)
  | 31 => ("FixityTreesModel", "foundFirst", "I", false)
  | 32 => ("FixityTreesModel", "foundSecond", "I", false)
  | 33 => ("FixityTreesModel", "foundMost", "I", false)
  | 34 => ("FixityTreesModel", "partFrom", "[I", true)
  | 35 => ("FixityTreesModel", "partTo", "[I", true)
  | 36 => ("FixityTreesModel", "partParent", "[I", true)
  | 37 => ("FixityTreesModel", "partSide", "[I", true)
  | 38 => ("FixityTreesModel", "parts", "I", false)
  | 39 => ("FixityTreesModel", "isWritten", "Z", false)
  | 40 => ("FixityTreesModel", "wrote", "I", false)
  | 41 => ("FixityTreesModel", "wroteKind", "[I", true)
  | 42 => ("FixityTreesModel", "wroteOperator", "[I", true)
  | 43 => ("FixityTreesModel", "wroteNode", "[I", true)
  | 44 => ("FixityTreesModel", "wroteNumber", "[J", true)
  | 45 => ("FixityTreesModel", "dueKind", "[I", true)
  | 46 => ("FixityTreesModel", "dueNode", "[I", true)
  | _ => ("FixityTreesModel", "dues", "I", false)
def t_Md : Nat → FieldType := fun k => match k with
  | 0 => .int
  | 1 => .int
  | 2 => .array .int
  | 3 => .array .int
  | 4 => .array .int
  | 5 => .int
  | 6 => .boolean
  | 7 => .array .int
  | 8 => .array .int
  | 9 => .array .long
  | 10 => .int
  | 11 => .array .int
  | 12 => .int
  | 13 => .int
  | 14 => .array .int
  | 15 => .array .int
  | 16 => .array .int
  | 17 => .array .int
  | 18 => .array .int
  | 19 => .array .int
  | 20 => .array .long
  | 21 => .int
  | 22 => .int
  | 23 => .int
  | 24 => .int
  | 25 => .int
  | 26 => .array .int
  | 27 => .array .int
  | 28 => .array .boolean
  | 29 => .array .int
  | 30 => .int
  | 31 => .int
  | 32 => .int
  | 33 => .int
  | 34 => .array .int
  | 35 => .array .int
  | 36 => .array .int
  | 37 => .array .int
  | 38 => .int
  | 39 => .boolean
  | 40 => .int
  | 41 => .array .int
  | 42 => .array .int
  | 43 => .array .int
  | 44 => .array .long
  | 45 => .array .int
  | 46 => .array .int
  | _ => .int
theorem n_Md : ∀ a, a < 48 → ∀ b, b < 48 → a ≠ b → (T_Md a).2.1 ≠ (T_Md b).2.1 := by decide +kernel
theorem t_Md_ok : ∀ k, k < 48 → parseFieldDescriptor (T_Md k).2.2.1 = some (t_Md k) := by decide +kernel
theorem in_Md : ∀ w ∈ u_ws "FixityTreesModel" T_Md 48, w ∈ fx_g := fx_ins [985, 987, 989, 991, 993, 995, 997, 999, 1001, 1003, 1005, 1007, 1009, 1011, 1013, 1015, 1017, 1019, 1021, 1023, 1025, 1027, 1029, 1031, 1033, 1035, 1037, 1039, 1041, 1043, 1045, 1047, 1049, 1051, 1053, 1055, 1057, 1059, 1061, 1063, 1065, 1067, 1069, 1071, 1073, 1075, 1077, 1079] (by decide +kernel) (by decide +kernel)
abbrev fx_cl : List vw_C := [("FixityTrees", T_FixityTrees, 11), ("FixityTrees$Scopes", T_Scopes, 3), ("FixityTrees$Fixities", T_Fixities, 2), ("FixityTrees$Row", T_Row, 8), ("FixityTrees$Resolver", T_Resolver, 14), ("FixityTrees$IntStack", T_IntStack, 2), ("FixityTrees$Tree", T_Tree, 8), ("FixityTrees$Written", T_Written, 11), ("FixityTreesModel", T_Md, 48)]
theorem fx_mxg : fx_mx fx_g := ⟨fx_in 604 (by decide +kernel) (by decide +kernel), fx_in 16 (by decide +kernel) (by decide +kernel), fx_in 605 (by decide +kernel) (by decide +kernel)⟩
