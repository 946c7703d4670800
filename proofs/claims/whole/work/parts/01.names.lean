/-! Names: classes, fields, methods, and the words of the tables by their places. Laid by wip/whole/prog/names.py out of the Statement and the listing. -/
/-- the words that every call keeps; those of nest mates are carried beside them -/
def zz_tbl : List Cond := lw_tbl.filter goodWord
theorem zz_in {w : Cond} {i : Nat} (h : lw_tbl[i]? = some w) (hg : goodWord w = true) : w ∈ zz_tbl := List.mem_filter.mpr ⟨List.mem_of_getElem? h, hg⟩
def zz_isN : Cond → Bool
  | .methodLinkNest .. => true
  | .fieldLinkNest .. => true
  | _ => false
def R_Forge : String := "TreeCoverForge"
def F_Forge : u_T := fun k => match k with
  | 0 => ("TreeCoverForge", "book", "LTreeCoverForge$RuleBook;", true)
  | 1 => ("TreeCoverForge", "pile", "LTreeCoverForge$Pile;", true)
  | 2 => ("TreeCoverForge", "table", "LTreeCoverForge$StateTable;", true)
  | 3 => ("TreeCoverForge", "code", "LTreeCoverForge$Code;", true)
  | 4 => ("TreeCoverForge", "variables", "[I", true)
  | _ => ("TreeCoverForge", "registerCount", "I", false)
def t_Forge : Nat → FieldType := fun k => match k with
  | 0 => .object "TreeCoverForge$RuleBook"
  | 1 => .object "TreeCoverForge$Pile"
  | 2 => .object "TreeCoverForge$StateTable"
  | 3 => .object "TreeCoverForge$Code"
  | 4 => .array .int
  | _ => .int
theorem n_Forge : ∀ a, a < 6 → ∀ b, b < 6 → a ≠ b → (F_Forge a).2.1 ≠ (F_Forge b).2.1 := by decide +kernel
theorem t_Forge_ok : ∀ k, k < 6 → parseFieldDescriptor (F_Forge k).2.2.1 = some (t_Forge k) := by decide +kernel
set_option maxRecDepth 100000 in
theorem hin_Forge : ∀ w ∈ u_ws R_Forge F_Forge 6, w ∈ zz_tbl := by decide +kernel
def R_Book : String := "TreeCoverForge$RuleBook"
def F_Book : u_T := fun k => match k with
  | 0 => ("TreeCoverForge$RuleBook", "kinds", "[I", true)
  | 1 => ("TreeCoverForge$RuleBook", "ops", "[I", true)
  | 2 => ("TreeCoverForge$RuleBook", "firsts", "[I", true)
  | 3 => ("TreeCoverForge$RuleBook", "seconds", "[I", true)
  | 4 => ("TreeCoverForge$RuleBook", "costs", "[I", true)
  | 5 => ("TreeCoverForge$RuleBook", "numbersOf", "[[I", true)
  | 6 => ("TreeCoverForge$RuleBook", "sizeOf", "[I", true)
  | _ => ("TreeCoverForge$RuleBook", "count", "I", false)
def t_Book : Nat → FieldType := fun k => match k with
  | 0 => .array .int
  | 1 => .array .int
  | 2 => .array .int
  | 3 => .array .int
  | 4 => .array .int
  | 5 => .array (.array .int)
  | 6 => .array .int
  | _ => .int
theorem n_Book : ∀ a, a < 8 → ∀ b, b < 8 → a ≠ b → (F_Book a).2.1 ≠ (F_Book b).2.1 := by decide +kernel
theorem t_Book_ok : ∀ k, k < 8 → parseFieldDescriptor (F_Book k).2.2.1 = some (t_Book k) := by decide +kernel
set_option maxRecDepth 100000 in
theorem hin_Book : ∀ w ∈ u_ws R_Book F_Book 8, w ∈ zz_tbl := by decide +kernel
def R_Label : String := "TreeCoverForge$Label"
def F_Label : u_T := fun k => match k with
  | 0 => ("TreeCoverForge$Label", "costs", "[J", true)
  | _ => ("TreeCoverForge$Label", "choices", "[I", true)
def t_Label : Nat → FieldType := fun k => match k with
  | 0 => .array .long
  | _ => .array .int
theorem n_Label : ∀ a, a < 2 → ∀ b, b < 2 → a ≠ b → (F_Label a).2.1 ≠ (F_Label b).2.1 := by decide +kernel
theorem t_Label_ok : ∀ k, k < 2 → parseFieldDescriptor (F_Label k).2.2.1 = some (t_Label k) := by decide +kernel
set_option maxRecDepth 100000 in
theorem hin_Label : ∀ w ∈ u_ws R_Label F_Label 2, w ∈ zz_tbl := by decide +kernel
def R_Table : String := "TreeCoverForge$StateTable"
def F_Table : u_T := fun k => match k with
  | 0 => ("TreeCoverForge$StateTable", "found", "[LTreeCoverForge$Label;", true)
  | 1 => ("TreeCoverForge$StateTable", "noKid", "LTreeCoverForge$Label;", true)
  | 2 => ("TreeCoverForge$StateTable", "foundCount", "I", false)
  | _ => ("TreeCoverForge$StateTable", "counted", "I", false)
def t_Table : Nat → FieldType := fun k => match k with
  | 0 => .array (.object "TreeCoverForge$Label")
  | 1 => .object "TreeCoverForge$Label"
  | 2 => .int
  | _ => .int
theorem n_Table : ∀ a, a < 4 → ∀ b, b < 4 → a ≠ b → (F_Table a).2.1 ≠ (F_Table b).2.1 := by decide +kernel
theorem t_Table_ok : ∀ k, k < 4 → parseFieldDescriptor (F_Table k).2.2.1 = some (t_Table k) := by decide +kernel
set_option maxRecDepth 100000 in
theorem hin_Table : ∀ w ∈ u_ws R_Table F_Table 4, w ∈ zz_tbl := by decide +kernel
def R_Pile : String := "TreeCoverForge$Pile"
def F_Pile : u_T := fun k => match k with
  | 0 => ("TreeCoverForge$Pile", "ops", "[I", true)
  | 1 => ("TreeCoverForge$Pile", "numbers", "[I", true)
  | 2 => ("TreeCoverForge$Pile", "sizes", "[I", true)
  | 3 => ("TreeCoverForge$Pile", "heights", "[I", true)
  | 4 => ("TreeCoverForge$Pile", "results", "[I", true)
  | 5 => ("TreeCoverForge$Pile", "labels", "[LTreeCoverForge$Label;", true)
  | 6 => ("TreeCoverForge$Pile", "noKid", "LTreeCoverForge$Label;", true)
  | 7 => ("TreeCoverForge$Pile", "nodeCount", "I", false)
  | 8 => ("TreeCoverForge$Pile", "treeCount", "I", false)
  | _ => ("TreeCoverForge$Pile", "labelledCount", "I", false)
def t_Pile : Nat → FieldType := fun k => match k with
  | 0 => .array .int
  | 1 => .array .int
  | 2 => .array .int
  | 3 => .array .int
  | 4 => .array .int
  | 5 => .array (.object "TreeCoverForge$Label")
  | 6 => .object "TreeCoverForge$Label"
  | 7 => .int
  | 8 => .int
  | _ => .int
theorem n_Pile : ∀ a, a < 10 → ∀ b, b < 10 → a ≠ b → (F_Pile a).2.1 ≠ (F_Pile b).2.1 := by decide +kernel
theorem t_Pile_ok : ∀ k, k < 10 → parseFieldDescriptor (F_Pile k).2.2.1 = some (t_Pile k) := by decide +kernel
set_option maxRecDepth 100000 in
theorem hin_Pile : ∀ w ∈ u_ws R_Pile F_Pile 10, w ∈ zz_tbl := by decide +kernel
def R_Code : String := "TreeCoverForge$Code"
def F_Code : u_T := fun k => match k with
  | 0 => ("TreeCoverForge$Code", "rules", "[I", true)
  | 1 => ("TreeCoverForge$Code", "nodes", "[I", true)
  | 2 => ("TreeCoverForge$Code", "ops", "[I", true)
  | 3 => ("TreeCoverForge$Code", "numbers", "[I", true)
  | 4 => ("TreeCoverForge$Code", "firsts", "[I", true)
  | 5 => ("TreeCoverForge$Code", "seconds", "[I", true)
  | 6 => ("TreeCoverForge$Code", "lastUses", "[I", true)
  | 7 => ("TreeCoverForge$Code", "places", "[I", true)
  | 8 => ("TreeCoverForge$Code", "memory", "[I", true)
  | 9 => ("TreeCoverForge$Code", "holders", "[I", true)
  | 10 => ("TreeCoverForge$Code", "kinds", "[I", true)
  | 11 => ("TreeCoverForge$Code", "latest", "[I", true)
  | 12 => ("TreeCoverForge$Code", "path", "[I", true)
  | 13 => ("TreeCoverForge$Code", "count", "I", false)
  | _ => ("TreeCoverForge$Code", "slotCount", "I", false)
def t_Code : Nat → FieldType := fun k => match k with
  | 0 => .array .int
  | 1 => .array .int
  | 2 => .array .int
  | 3 => .array .int
  | 4 => .array .int
  | 5 => .array .int
  | 6 => .array .int
  | 7 => .array .int
  | 8 => .array .int
  | 9 => .array .int
  | 10 => .array .int
  | 11 => .array .int
  | 12 => .array .int
  | 13 => .int
  | _ => .int
theorem n_Code : ∀ a, a < 15 → ∀ b, b < 15 → a ≠ b → (F_Code a).2.1 ≠ (F_Code b).2.1 := by decide +kernel
theorem t_Code_ok : ∀ k, k < 15 → parseFieldDescriptor (F_Code k).2.2.1 = some (t_Code k) := by decide +kernel
set_option maxRecDepth 100000 in
theorem hin_Code : ∀ w ∈ u_ws R_Code F_Code 15, w ∈ zz_tbl := by decide +kernel
def R_Model : String := "TreeCoverForgeModel"
def F_Model : u_T := fun k => match k with
  | 0 => ("TreeCoverForgeModel", "rules", "I", false)
  | 1 => ("TreeCoverForgeModel", "makes", "[I", true)
  | 2 => ("TreeCoverForgeModel", "operator", "[I", true)
  | 3 => ("TreeCoverForgeModel", "first", "[I", true)
  | 4 => ("TreeCoverForgeModel", "second", "[I", true)
  | 5 => ("TreeCoverForgeModel", "price", "[I", true)
  | 6 => ("TreeCoverForgeModel", "total", "I", false)
  | 7 => ("TreeCoverForgeModel", "op", "[I", true)
  | 8 => ("TreeCoverForgeModel", "number", "[I", true)
  | 9 => ("TreeCoverForgeModel", "size", "[I", true)
  | 10 => ("TreeCoverForgeModel", "height", "[I", true)
  | 11 => ("TreeCoverForgeModel", "many", "I", false)
  | 12 => ("TreeCoverForgeModel", "start", "[I", true)
  | 13 => ("TreeCoverForgeModel", "least", "[J", true)
  | 14 => ("TreeCoverForgeModel", "chosen", "[I", true)
  | 15 => ("TreeCoverForgeModel", "left", "[J", true)
  | 16 => ("TreeCoverForgeModel", "right", "[J", true)
  | 17 => ("TreeCoverForgeModel", "got", "[J", true)
  | 18 => ("TreeCoverForgeModel", "pick", "[I", true)
  | 19 => ("TreeCoverForgeModel", "stateCount", "I", false)
  | 20 => ("TreeCoverForgeModel", "stateCost", "[J", true)
  | 21 => ("TreeCoverForgeModel", "statePick", "[I", true)
  | 22 => ("TreeCoverForgeModel", "length", "I", false)
  | 23 => ("TreeCoverForgeModel", "slotCount", "I", false)
  | 24 => ("TreeCoverForgeModel", "registers", "I", false)
  | 25 => ("TreeCoverForgeModel", "codeRule", "[I", true)
  | 26 => ("TreeCoverForgeModel", "codeNode", "[I", true)
  | 27 => ("TreeCoverForgeModel", "codeOp", "[I", true)
  | 28 => ("TreeCoverForgeModel", "codeNumber", "[I", true)
  | 29 => ("TreeCoverForgeModel", "sourceA", "[I", true)
  | 30 => ("TreeCoverForgeModel", "sourceB", "[I", true)
  | 31 => ("TreeCoverForgeModel", "until", "[I", true)
  | 32 => ("TreeCoverForgeModel", "place", "[I", true)
  | 33 => ("TreeCoverForgeModel", "result", "[I", true)
  | 34 => ("TreeCoverForgeModel", "wanted", "[I", true)
  | 35 => ("TreeCoverForgeModel", "latest", "[I", true)
  | 36 => ("TreeCoverForgeModel", "chain", "[I", true)
  | 37 => ("TreeCoverForgeModel", "variables", "[I", true)
  | _ => ("TreeCoverForgeModel", "values", "[I", true)
def t_Model : Nat → FieldType := fun k => match k with
  | 0 => .int
  | 1 => .array .int
  | 2 => .array .int
  | 3 => .array .int
  | 4 => .array .int
  | 5 => .array .int
  | 6 => .int
  | 7 => .array .int
  | 8 => .array .int
  | 9 => .array .int
  | 10 => .array .int
  | 11 => .int
  | 12 => .array .int
  | 13 => .array .long
  | 14 => .array .int
  | 15 => .array .long
  | 16 => .array .long
  | 17 => .array .long
  | 18 => .array .int
  | 19 => .int
  | 20 => .array .long
  | 21 => .array .int
  | 22 => .int
  | 23 => .int
  | 24 => .int
  | 25 => .array .int
  | 26 => .array .int
  | 27 => .array .int
  | 28 => .array .int
  | 29 => .array .int
  | 30 => .array .int
  | 31 => .array .int
  | 32 => .array .int
  | 33 => .array .int
  | 34 => .array .int
  | 35 => .array .int
  | 36 => .array .int
  | 37 => .array .int
  | _ => .array .int
theorem n_Model : ∀ a, a < 39 → ∀ b, b < 39 → a ≠ b → (F_Model a).2.1 ≠ (F_Model b).2.1 := by decide +kernel
theorem t_Model_ok : ∀ k, k < 39 → parseFieldDescriptor (F_Model k).2.2.1 = some (t_Model k) := by decide +kernel
set_option maxRecDepth 100000 in
theorem hin_Model : ∀ w ∈ u_ws R_Model F_Model 39, w ∈ zz_tbl := by decide +kernel
abbrev b_Forge_init : ByteArray := prog_1_method_1_code
def y_Forge_init : MethodName := ⟨"TreeCoverForge", "<init>", "()V"⟩
abbrev rm_Forge_init : Room := { frames := 3, cells := 0, slots := 0, locals := 61 }
abbrev b_Object_init : ByteArray := object_method_1_code
def y_Object_init : MethodName := ⟨"java/lang/Object", "<init>", "()V"⟩
abbrev rm_Object_init : Room := { frames := 0, cells := 0, slots := 0, locals := 0 }
abbrev b_Book_init : ByteArray := prog_5_method_1_code
def y_Book_init : MethodName := ⟨"TreeCoverForge$RuleBook", "<init>", "()V"⟩
abbrev rm_Book_init : Room := { frames := 1, cells := 0, slots := 0, locals := 20 }
abbrev b_Pile_init : ByteArray := prog_4_method_1_code
def y_Pile_init : MethodName := ⟨"TreeCoverForge$Pile", "<init>", "()V"⟩
abbrev rm_Pile_init : Room := { frames := 2, cells := 0, slots := 0, locals := 40 }
abbrev b_Label_init : ByteArray := prog_3_method_1_code
def y_Label_init : MethodName := ⟨"TreeCoverForge$Label", "<init>", "()V"⟩
abbrev rm_Label_init : Room := { frames := 1, cells := 0, slots := 0, locals := 20 }
abbrev b_Table_init : ByteArray := prog_6_method_1_code
def y_Table_init : MethodName := ⟨"TreeCoverForge$StateTable", "<init>", "()V"⟩
abbrev rm_Table_init : Room := { frames := 2, cells := 0, slots := 0, locals := 40 }
abbrev b_Code_init : ByteArray := prog_2_method_1_code
def y_Code_init : MethodName := ⟨"TreeCoverForge$Code", "<init>", "()V"⟩
abbrev rm_Code_init : Room := { frames := 1, cells := 0, slots := 0, locals := 20 }
abbrev b_Forge_rule : ByteArray := prog_1_method_2_code
def y_Forge_rule : MethodName := ⟨"TreeCoverForge", "rule", "(IIIII)I"⟩
abbrev rm_Forge_rule : Room := { frames := 1, cells := 0, slots := 0, locals := 26 }
abbrev b_Forge_isKind : ByteArray := prog_1_method_21_code
def y_Forge_isKind : MethodName := ⟨"TreeCoverForge", "isKind", "(I)Z"⟩
abbrev rm_Forge_isKind : Room := { frames := 0, cells := 0, slots := 0, locals := 0 }
abbrev b_Forge_fitsOperator : ByteArray := prog_1_method_24_code
def y_Forge_fitsOperator : MethodName := ⟨"TreeCoverForge", "fitsOperator", "(IIII)Z"⟩
abbrev rm_Forge_fitsOperator : Room := { frames := 0, cells := 0, slots := 0, locals := 0 }
abbrev b_Forge_isCostFor : ByteArray := prog_1_method_25_code
def y_Forge_isCostFor : MethodName := ⟨"TreeCoverForge", "isCostFor", "(II)Z"⟩
abbrev rm_Forge_isCostFor : Room := { frames := 0, cells := 0, slots := 0, locals := 0 }
abbrev b_Forge_forgetConclusions : ByteArray := prog_1_method_19_code
def y_Forge_forgetConclusions : MethodName := ⟨"TreeCoverForge", "forgetConclusions", "()V"⟩
abbrev rm_Forge_forgetConclusions : Room := { frames := 0, cells := 0, slots := 0, locals := 0 }
abbrev b_Book_add : ByteArray := prog_5_method_2_code
def y_Book_add : MethodName := ⟨"TreeCoverForge$RuleBook", "add", "(IIIII)I"⟩
abbrev rm_Book_add : Room := { frames := 0, cells := 0, slots := 0, locals := 0 }
abbrev b_Forge_clear : ByteArray := prog_1_method_3_code
def y_Forge_clear : MethodName := ⟨"TreeCoverForge", "clear", "()V"⟩
abbrev rm_Forge_clear : Room := { frames := 2, cells := 0, slots := 0, locals := 43 }
abbrev b_Book_removeAll : ByteArray := prog_5_method_3_code
def y_Book_removeAll : MethodName := ⟨"TreeCoverForge$RuleBook", "removeAll", "()V"⟩
abbrev rm_Book_removeAll : Room := { frames := 1, cells := 0, slots := 0, locals := 23 }
abbrev b_Arrays_fillI : ByteArray := prog_10_method_103_code
def y_Arrays_fillI : MethodName := ⟨"java/util/Arrays", "fill", "([II)V"⟩
abbrev rm_Arrays_fillI : Room := { frames := 0, cells := 0, slots := 0, locals := 0 }
abbrev b_Forge_states : ByteArray := prog_1_method_4_code
def y_Forge_states : MethodName := ⟨"TreeCoverForge", "states", "()I"⟩
abbrev rm_Forge_states : Room := { frames := 6, cells := 0, slots := 0, locals := 157 }
abbrev b_Table_findAll : ByteArray := prog_6_method_2_code
def y_Table_findAll : MethodName := ⟨"TreeCoverForge$StateTable", "findAll", "(LTreeCoverForge$RuleBook;)V"⟩
abbrev rm_Table_findAll : Room := { frames := 5, cells := 0, slots := 0, locals := 134 }
abbrev b_Table_look : ByteArray := prog_6_method_4_code
def y_Table_look : MethodName := ⟨"TreeCoverForge$StateTable", "look", "(LTreeCoverForge$RuleBook;ILTreeCoverForge$Label;LTreeCoverForge$Label;)V"⟩
abbrev rm_Table_look : Room := { frames := 3, cells := 0, slots := 0, locals := 84 }
abbrev b_Label_derive : ByteArray := prog_3_method_3_code
def y_Label_derive : MethodName := ⟨"TreeCoverForge$Label", "derive", "(LTreeCoverForge$RuleBook;ILTreeCoverForge$Label;LTreeCoverForge$Label;)V"⟩
abbrev rm_Label_derive : Room := { frames := 2, cells := 0, slots := 0, locals := 55 }
abbrev b_Arrays_fillJ : ByteArray := prog_10_method_101_code
def y_Arrays_fillJ : MethodName := ⟨"java/util/Arrays", "fill", "([JJ)V"⟩
abbrev rm_Arrays_fillJ : Room := { frames := 0, cells := 0, slots := 0, locals := 0 }
abbrev b_Label_isCovered : ByteArray := prog_3_method_2_code
def y_Label_isCovered : MethodName := ⟨"TreeCoverForge$Label", "isCovered", "(I)Z"⟩
abbrev rm_Label_isCovered : Room := { frames := 0, cells := 0, slots := 0, locals := 0 }
abbrev b_Label_offer : ByteArray := prog_3_method_5_code
def y_Label_offer : MethodName := ⟨"TreeCoverForge$Label", "offer", "(LTreeCoverForge$RuleBook;IJ)Z"⟩
abbrev rm_Label_offer : Room := { frames := 0, cells := 0, slots := 0, locals := 0 }
abbrev b_Label_applyChains : ByteArray := prog_3_method_4_code
def y_Label_applyChains : MethodName := ⟨"TreeCoverForge$Label", "applyChains", "(LTreeCoverForge$RuleBook;)V"⟩
abbrev rm_Label_applyChains : Room := { frames := 1, cells := 0, slots := 0, locals := 28 }
abbrev b_Label_makeRelative : ByteArray := prog_3_method_7_code
def y_Label_makeRelative : MethodName := ⟨"TreeCoverForge$Label", "makeRelative", "()V"⟩
abbrev rm_Label_makeRelative : Room := { frames := 2, cells := 0, slots := 0, locals := 44 }
abbrev b_Label_leastCost : ByteArray := prog_3_method_6_code
def y_Label_leastCost : MethodName := ⟨"TreeCoverForge$Label", "leastCost", "()J"⟩
abbrev rm_Label_leastCost : Room := { frames := 1, cells := 0, slots := 0, locals := 21 }
abbrev b_Label_agreesWith : ByteArray := prog_3_method_8_code
def y_Label_agreesWith : MethodName := ⟨"TreeCoverForge$Label", "agreesWith", "(LTreeCoverForge$Label;)Z"⟩
abbrev rm_Label_agreesWith : Room := { frames := 0, cells := 0, slots := 0, locals := 0 }
abbrev b_Table_lookAtPair : ByteArray := prog_6_method_3_code
def y_Table_lookAtPair : MethodName := ⟨"TreeCoverForge$StateTable", "lookAtPair", "(LTreeCoverForge$RuleBook;II)V"⟩
abbrev rm_Table_lookAtPair : Room := { frames := 4, cells := 0, slots := 0, locals := 110 }
abbrev b_Forge_push : ByteArray := prog_1_method_5_code
def y_Forge_push : MethodName := ⟨"TreeCoverForge", "push", "(II)I"⟩
abbrev rm_Forge_push : Room := { frames := 3, cells := 0, slots := 0, locals := 67 }
abbrev b_Forge_isNumberFor : ByteArray := prog_1_method_23_code
def y_Forge_isNumberFor : MethodName := ⟨"TreeCoverForge", "isNumberFor", "(II)Z"⟩
abbrev rm_Forge_isNumberFor : Room := { frames := 1, cells := 0, slots := 0, locals := 20 }
abbrev b_Forge_isVariable : ByteArray := prog_1_method_22_code
def y_Forge_isVariable : MethodName := ⟨"TreeCoverForge", "isVariable", "(I)Z"⟩
abbrev rm_Forge_isVariable : Room := { frames := 0, cells := 0, slots := 0, locals := 0 }
abbrev b_Pile_heightOfNew : ByteArray := prog_4_method_5_code
def y_Pile_heightOfNew : MethodName := ⟨"TreeCoverForge$Pile", "heightOfNew", "(I)I"⟩
abbrev rm_Pile_heightOfNew : Room := { frames := 1, cells := 0, slots := 0, locals := 22 }
abbrev b_Pile_firstKid : ByteArray := prog_4_method_4_code
def y_Pile_firstKid : MethodName := ⟨"TreeCoverForge$Pile", "firstKid", "(II)I"⟩
abbrev rm_Pile_firstKid : Room := { frames := 0, cells := 0, slots := 0, locals := 0 }
abbrev b_Math_max : ByteArray := prog_9_method_65_code
def y_Math_max : MethodName := ⟨"java/lang/Math", "max", "(II)I"⟩
abbrev rm_Math_max : Room := { frames := 0, cells := 0, slots := 0, locals := 0 }
abbrev b_Pile_add : ByteArray := prog_4_method_6_code
def y_Pile_add : MethodName := ⟨"TreeCoverForge$Pile", "add", "(II)V"⟩
abbrev rm_Pile_add : Room := { frames := 2, cells := 0, slots := 0, locals := 43 }
abbrev b_Forge_pop : ByteArray := prog_1_method_6_code
def y_Forge_pop : MethodName := ⟨"TreeCoverForge", "pop", "()Z"⟩
abbrev rm_Forge_pop : Room := { frames := 2, cells := 0, slots := 0, locals := 41 }
abbrev b_Pile_removeTop : ByteArray := prog_4_method_7_code
def y_Pile_removeTop : MethodName := ⟨"TreeCoverForge$Pile", "removeTop", "()V"⟩
abbrev rm_Pile_removeTop : Room := { frames := 1, cells := 0, slots := 0, locals := 21 }
abbrev b_Pile_topSize : ByteArray := prog_4_method_2_code
def y_Pile_topSize : MethodName := ⟨"TreeCoverForge$Pile", "topSize", "()I"⟩
abbrev rm_Pile_topSize : Room := { frames := 0, cells := 0, slots := 0, locals := 0 }
abbrev b_Math_min : ByteArray := prog_9_method_69_code
def y_Math_min : MethodName := ⟨"java/lang/Math", "min", "(II)I"⟩
abbrev rm_Math_min : Room := { frames := 0, cells := 0, slots := 0, locals := 0 }
abbrev b_Forge_trees : ByteArray := prog_1_method_7_code
def y_Forge_trees : MethodName := ⟨"TreeCoverForge", "trees", "()I"⟩
abbrev rm_Forge_trees : Room := { frames := 0, cells := 0, slots := 0, locals := 0 }
abbrev b_Forge_nodes : ByteArray := prog_1_method_8_code
def y_Forge_nodes : MethodName := ⟨"TreeCoverForge", "nodes", "()I"⟩
abbrev rm_Forge_nodes : Room := { frames := 1, cells := 0, slots := 0, locals := 20 }
abbrev b_Forge_relative : ByteArray := prog_1_method_9_code
def y_Forge_relative : MethodName := ⟨"TreeCoverForge", "relative", "(II)I"⟩
abbrev rm_Forge_relative : Room := { frames := 4, cells := 0, slots := 0, locals := 110 }
abbrev b_Forge_isTopNode : ByteArray := prog_1_method_20_code
def y_Forge_isTopNode : MethodName := ⟨"TreeCoverForge", "isTopNode", "(I)Z"⟩
abbrev rm_Forge_isTopNode : Room := { frames := 1, cells := 0, slots := 0, locals := 20 }
abbrev b_Pile_labelOf : ByteArray := prog_4_method_8_code
def y_Pile_labelOf : MethodName := ⟨"TreeCoverForge$Pile", "labelOf", "(LTreeCoverForge$RuleBook;I)LTreeCoverForge$Label;"⟩
abbrev rm_Pile_labelOf : Room := { frames := 3, cells := 0, slots := 0, locals := 84 }
abbrev b_Pile_topStart : ByteArray := prog_4_method_3_code
def y_Pile_topStart : MethodName := ⟨"TreeCoverForge$Pile", "topStart", "()I"⟩
abbrev rm_Pile_topStart : Room := { frames := 1, cells := 0, slots := 0, locals := 20 }
abbrev b_Forge_choice : ByteArray := prog_1_method_10_code
def y_Forge_choice : MethodName := ⟨"TreeCoverForge", "choice", "(II)I"⟩
abbrev rm_Forge_choice : Room := { frames := 4, cells := 0, slots := 0, locals := 110 }
abbrev b_Forge_cost : ByteArray := prog_1_method_11_code
def y_Forge_cost : MethodName := ⟨"TreeCoverForge", "cost", "(I)I"⟩
abbrev rm_Forge_cost : Room := { frames := 4, cells := 0, slots := 0, locals := 110 }
abbrev b_Forge_registers : ByteArray := prog_1_method_12_code
def y_Forge_registers : MethodName := ⟨"TreeCoverForge", "registers", "(I)Z"⟩
abbrev rm_Forge_registers : Room := { frames := 0, cells := 0, slots := 0, locals := 0 }
abbrev b_Forge_cover : ByteArray := prog_1_method_13_code
def y_Forge_cover : MethodName := ⟨"TreeCoverForge", "cover", "()I"⟩
abbrev rm_Forge_cover : Room := { frames := 4, cells := 0, slots := 0, locals := 110 }
abbrev b_Code_write : ByteArray := prog_2_method_2_code
def y_Code_write : MethodName := ⟨"TreeCoverForge$Code", "write", "(LTreeCoverForge$RuleBook;LTreeCoverForge$Pile;)V"⟩
abbrev rm_Code_write : Room := { frames := 3, cells := 0, slots := 0, locals := 66 }
abbrev b_Code_chooseKinds : ByteArray := prog_2_method_3_code
def y_Code_chooseKinds : MethodName := ⟨"TreeCoverForge$Code", "chooseKinds", "(LTreeCoverForge$RuleBook;LTreeCoverForge$Pile;)V"⟩
abbrev rm_Code_chooseKinds : Room := { frames := 2, cells := 0, slots := 0, locals := 40 }
abbrev b_Code_followChoices : ByteArray := prog_2_method_4_code
def y_Code_followChoices : MethodName := ⟨"TreeCoverForge$Code", "followChoices", "(LTreeCoverForge$RuleBook;LTreeCoverForge$Pile;I)I"⟩
abbrev rm_Code_followChoices : Room := { frames := 0, cells := 0, slots := 0, locals := 0 }
abbrev b_Code_writeOperator : ByteArray := prog_2_method_5_code
def y_Code_writeOperator : MethodName := ⟨"TreeCoverForge$Code", "writeOperator", "(LTreeCoverForge$Pile;II)V"⟩
abbrev rm_Code_writeOperator : Room := { frames := 2, cells := 0, slots := 0, locals := 40 }
abbrev b_Code_append : ByteArray := prog_2_method_6_code
def y_Code_append : MethodName := ⟨"TreeCoverForge$Code", "append", "(IIIIII)V"⟩
abbrev rm_Code_append : Room := { frames := 0, cells := 0, slots := 0, locals := 0 }
abbrev b_Code_givePlaces : ByteArray := prog_2_method_7_code
def y_Code_givePlaces : MethodName := ⟨"TreeCoverForge$Code", "givePlaces", "(I)V"⟩
abbrev rm_Code_givePlaces : Room := { frames := 2, cells := 0, slots := 0, locals := 46 }
abbrev b_Code_releaseUntil : ByteArray := prog_2_method_8_code
def y_Code_releaseUntil : MethodName := ⟨"TreeCoverForge$Code", "releaseUntil", "(II)V"⟩
abbrev rm_Code_releaseUntil : Room := { frames := 0, cells := 0, slots := 0, locals := 0 }
abbrev b_Code_leastFree : ByteArray := prog_2_method_9_code
def y_Code_leastFree : MethodName := ⟨"TreeCoverForge$Code", "leastFree", "(I)I"⟩
abbrev rm_Code_leastFree : Room := { frames := 0, cells := 0, slots := 0, locals := 0 }
abbrev b_Code_spillFor : ByteArray := prog_2_method_10_code
def y_Code_spillFor : MethodName := ⟨"TreeCoverForge$Code", "spillFor", "(II)V"⟩
abbrev rm_Code_spillFor : Room := { frames := 1, cells := 0, slots := 0, locals := 22 }
abbrev b_Code_isNeededLonger : ByteArray := prog_2_method_11_code
def y_Code_isNeededLonger : MethodName := ⟨"TreeCoverForge$Code", "isNeededLonger", "(II)Z"⟩
abbrev rm_Code_isNeededLonger : Room := { frames := 0, cells := 0, slots := 0, locals := 0 }
abbrev b_Forge_instruction : ByteArray := prog_1_method_14_code
def y_Forge_instruction : MethodName := ⟨"TreeCoverForge", "instruction", "(II)I"⟩
abbrev rm_Forge_instruction : Room := { frames := 2, cells := 0, slots := 0, locals := 43 }
abbrev b_Code_tell : ByteArray := prog_2_method_12_code
def y_Code_tell : MethodName := ⟨"TreeCoverForge$Code", "tell", "(II)I"⟩
abbrev rm_Code_tell : Room := { frames := 1, cells := 0, slots := 0, locals := 21 }
abbrev b_Code_placeOf : ByteArray := prog_2_method_13_code
def y_Code_placeOf : MethodName := ⟨"TreeCoverForge$Code", "placeOf", "(I)I"⟩
abbrev rm_Code_placeOf : Room := { frames := 0, cells := 0, slots := 0, locals := 0 }
abbrev b_Forge_slots : ByteArray := prog_1_method_15_code
def y_Forge_slots : MethodName := ⟨"TreeCoverForge", "slots", "()I"⟩
abbrev rm_Forge_slots : Room := { frames := 0, cells := 0, slots := 0, locals := 0 }
abbrev b_Forge_set : ByteArray := prog_1_method_16_code
def y_Forge_set : MethodName := ⟨"TreeCoverForge", "set", "(II)Z"⟩
abbrev rm_Forge_set : Room := { frames := 1, cells := 0, slots := 0, locals := 20 }
abbrev b_Forge_run : ByteArray := prog_1_method_17_code
def y_Forge_run : MethodName := ⟨"TreeCoverForge", "run", "()I"⟩
abbrev rm_Forge_run : Room := { frames := 2, cells := 0, slots := 0, locals := 48 }
abbrev b_Code_execute : ByteArray := prog_2_method_14_code
def y_Code_execute : MethodName := ⟨"TreeCoverForge$Code", "execute", "([I)I"⟩
abbrev rm_Code_execute : Room := { frames := 1, cells := 0, slots := 0, locals := 24 }
abbrev b_Forge_resultOf : ByteArray := prog_1_method_26_code
def y_Forge_resultOf : MethodName := ⟨"TreeCoverForge", "resultOf", "(IIII[I)I"⟩
abbrev rm_Forge_resultOf : Room := { frames := 0, cells := 0, slots := 0, locals := 0 }
abbrev b_Forge_value : ByteArray := prog_1_method_18_code
def y_Forge_value : MethodName := ⟨"TreeCoverForge", "value", "()I"⟩
abbrev rm_Forge_value : Room := { frames := 3, cells := 0, slots := 0, locals := 65 }
abbrev b_Pile_evaluateTop : ByteArray := prog_4_method_9_code
def y_Pile_evaluateTop : MethodName := ⟨"TreeCoverForge$Pile", "evaluateTop", "([I)I"⟩
abbrev rm_Pile_evaluateTop : Room := { frames := 2, cells := 0, slots := 0, locals := 40 }
abbrev b_Model_init : ByteArray := prog_8_method_1_code
def y_Model_init : MethodName := ⟨"TreeCoverForgeModel", "<init>", "()V"⟩
abbrev rm_Model_init : Room := { frames := 1, cells := 0, slots := 0, locals := 20 }
abbrev b_Model_rule : ByteArray := prog_8_method_4_code
def y_Model_rule : MethodName := ⟨"TreeCoverForgeModel", "rule", "(IIIII)I"⟩
abbrev rm_Model_rule : Room := { frames := 1, cells := 0, slots := 0, locals := 21 }
abbrev b_Model_outside : ByteArray := prog_8_method_3_code
def y_Model_outside : MethodName := ⟨"TreeCoverForgeModel", "outside", "(II)Z"⟩
abbrev rm_Model_outside : Room := { frames := 0, cells := 0, slots := 0, locals := 0 }
abbrev b_Model_clear : ByteArray := prog_8_method_5_code
def y_Model_clear : MethodName := ⟨"TreeCoverForgeModel", "clear", "()V"⟩
abbrev rm_Model_clear : Room := { frames := 0, cells := 0, slots := 0, locals := 0 }
abbrev b_Model_states : ByteArray := prog_8_method_13_code
def y_Model_states : MethodName := ⟨"TreeCoverForgeModel", "states", "()I"⟩
abbrev rm_Model_states : Room := { frames := 4, cells := 0, slots := 0, locals := 94 }
abbrev b_Model_combine : ByteArray := prog_8_method_7_code
def y_Model_combine : MethodName := ⟨"TreeCoverForgeModel", "combine", "(I)V"⟩
abbrev rm_Model_combine : Room := { frames := 2, cells := 0, slots := 0, locals := 45 }
abbrev b_Model_through : ByteArray := prog_8_method_6_code
def y_Model_through : MethodName := ⟨"TreeCoverForgeModel", "through", "(II)J"⟩
abbrev rm_Model_through : Room := { frames := 1, cells := 0, slots := 0, locals := 20 }
abbrev b_Model_kids : ByteArray := prog_8_method_2_code
def y_Model_kids : MethodName := ⟨"TreeCoverForgeModel", "kids", "(I)I"⟩
abbrev rm_Model_kids : Room := { frames := 0, cells := 0, slots := 0, locals := 0 }
abbrev b_Model_known : ByteArray := prog_8_method_11_code
def y_Model_known : MethodName := ⟨"TreeCoverForgeModel", "known", "()Z"⟩
abbrev rm_Model_known : Room := { frames := 1, cells := 0, slots := 0, locals := 23 }
abbrev b_Model_lowest : ByteArray := prog_8_method_10_code
def y_Model_lowest : MethodName := ⟨"TreeCoverForgeModel", "lowest", "()J"⟩
abbrev rm_Model_lowest : Room := { frames := 0, cells := 0, slots := 0, locals := 0 }
abbrev b_Model_reach : ByteArray := prog_8_method_12_code
def y_Model_reach : MethodName := ⟨"TreeCoverForgeModel", "reach", "(III)Z"⟩
abbrev rm_Model_reach : Room := { frames := 3, cells := 0, slots := 0, locals := 70 }
abbrev b_Model_push : ByteArray := prog_8_method_14_code
def y_Model_push : MethodName := ⟨"TreeCoverForgeModel", "push", "(II)I"⟩
abbrev rm_Model_push : Room := { frames := 1, cells := 0, slots := 0, locals := 21 }
abbrev b_Model_pop : ByteArray := prog_8_method_15_code
def y_Model_pop : MethodName := ⟨"TreeCoverForgeModel", "pop", "()Z"⟩
abbrev rm_Model_pop : Room := { frames := 0, cells := 0, slots := 0, locals := 0 }
abbrev b_Model_trees : ByteArray := prog_8_method_16_code
def y_Model_trees : MethodName := ⟨"TreeCoverForgeModel", "trees", "()I"⟩
abbrev rm_Model_trees : Room := { frames := 0, cells := 0, slots := 0, locals := 0 }
abbrev b_Model_nodes : ByteArray := prog_8_method_17_code
def y_Model_nodes : MethodName := ⟨"TreeCoverForgeModel", "nodes", "()I"⟩
abbrev rm_Model_nodes : Room := { frames := 0, cells := 0, slots := 0, locals := 0 }
abbrev b_Model_relative : ByteArray := prog_8_method_19_code
def y_Model_relative : MethodName := ⟨"TreeCoverForgeModel", "relative", "(II)I"⟩
abbrev rm_Model_relative : Room := { frames := 5, cells := 0, slots := 0, locals := 114 }
abbrev b_Model_noNode : ByteArray := prog_8_method_18_code
def y_Model_noNode : MethodName := ⟨"TreeCoverForgeModel", "noNode", "(II)Z"⟩
abbrev rm_Model_noNode : Room := { frames := 4, cells := 0, slots := 0, locals := 92 }
abbrev b_Model_work : ByteArray := prog_8_method_9_code
def y_Model_work : MethodName := ⟨"TreeCoverForgeModel", "work", "()Z"⟩
abbrev rm_Model_work : Room := { frames := 3, cells := 0, slots := 0, locals := 70 }
abbrev b_Model_takeKids : ByteArray := prog_8_method_8_code
def y_Model_takeKids : MethodName := ⟨"TreeCoverForgeModel", "takeKids", "(I)V"⟩
abbrev rm_Model_takeKids : Room := { frames := 1, cells := 0, slots := 0, locals := 20 }
abbrev b_Model_choice : ByteArray := prog_8_method_20_code
def y_Model_choice : MethodName := ⟨"TreeCoverForgeModel", "choice", "(II)I"⟩
abbrev rm_Model_choice : Room := { frames := 5, cells := 0, slots := 0, locals := 114 }
abbrev b_Model_cost : ByteArray := prog_8_method_21_code
def y_Model_cost : MethodName := ⟨"TreeCoverForgeModel", "cost", "(I)I"⟩
abbrev rm_Model_cost : Room := { frames := 4, cells := 0, slots := 0, locals := 92 }
abbrev b_Model_registers : ByteArray := prog_8_method_22_code
def y_Model_registers : MethodName := ⟨"TreeCoverForgeModel", "registers", "(I)Z"⟩
abbrev rm_Model_registers : Room := { frames := 0, cells := 0, slots := 0, locals := 0 }
abbrev b_Model_cover : ByteArray := prog_8_method_28_code
def y_Model_cover : MethodName := ⟨"TreeCoverForgeModel", "cover", "()I"⟩
abbrev rm_Model_cover : Room := { frames := 4, cells := 0, slots := 0, locals := 92 }
abbrev b_Model_want : ByteArray := prog_8_method_24_code
def y_Model_want : MethodName := ⟨"TreeCoverForgeModel", "want", "(I)V"⟩
abbrev rm_Model_want : Room := { frames := 1, cells := 0, slots := 0, locals := 20 }
abbrev b_Model_emit : ByteArray := prog_8_method_25_code
def y_Model_emit : MethodName := ⟨"TreeCoverForgeModel", "emit", "(II)V"⟩
abbrev rm_Model_emit : Room := { frames := 1, cells := 0, slots := 0, locals := 25 }
abbrev b_Model_write : ByteArray := prog_8_method_23_code
def y_Model_write : MethodName := ⟨"TreeCoverForgeModel", "write", "(IIIII)V"⟩
abbrev rm_Model_write : Room := { frames := 0, cells := 0, slots := 0, locals := 0 }
abbrev b_Model_settle : ByteArray := prog_8_method_27_code
def y_Model_settle : MethodName := ⟨"TreeCoverForgeModel", "settle", "(I)V"⟩
abbrev rm_Model_settle : Room := { frames := 1, cells := 0, slots := 0, locals := 22 }
abbrev b_Model_holds : ByteArray := prog_8_method_26_code
def y_Model_holds : MethodName := ⟨"TreeCoverForgeModel", "holds", "(II)Z"⟩
abbrev rm_Model_holds : Room := { frames := 0, cells := 0, slots := 0, locals := 0 }
abbrev b_Model_instruction : ByteArray := prog_8_method_29_code
def y_Model_instruction : MethodName := ⟨"TreeCoverForgeModel", "instruction", "(II)I"⟩
abbrev rm_Model_instruction : Room := { frames := 1, cells := 0, slots := 0, locals := 21 }
abbrev b_Model_slots : ByteArray := prog_8_method_30_code
def y_Model_slots : MethodName := ⟨"TreeCoverForgeModel", "slots", "()I"⟩
abbrev rm_Model_slots : Room := { frames := 0, cells := 0, slots := 0, locals := 0 }
abbrev b_Model_set : ByteArray := prog_8_method_31_code
def y_Model_set : MethodName := ⟨"TreeCoverForgeModel", "set", "(II)Z"⟩
abbrev rm_Model_set : Room := { frames := 1, cells := 0, slots := 0, locals := 21 }
abbrev b_Model_run : ByteArray := prog_8_method_33_code
def y_Model_run : MethodName := ⟨"TreeCoverForgeModel", "run", "()I"⟩
abbrev rm_Model_run : Room := { frames := 1, cells := 0, slots := 0, locals := 24 }
abbrev b_Model_calculate : ByteArray := prog_8_method_32_code
def y_Model_calculate : MethodName := ⟨"TreeCoverForgeModel", "calculate", "(IIII)I"⟩
abbrev rm_Model_calculate : Room := { frames := 0, cells := 0, slots := 0, locals := 0 }
abbrev b_Model_value : ByteArray := prog_8_method_34_code
def y_Model_value : MethodName := ⟨"TreeCoverForgeModel", "value", "()I"⟩
abbrev rm_Model_value : Room := { frames := 1, cells := 0, slots := 0, locals := 24 }
abbrev b_Law_law : ByteArray := code
def y_Law_law : MethodName := ⟨"TreeCoverForgeLaw", "law", "([I)Z"⟩
