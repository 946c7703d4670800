section
-- ===== PART A: goes FIRST, ahead of the names: the tables' words, and 'selects' of the private methods out of them =====
/-- a private method of a class that the tables say can be made, by its rows of tables_1 -/
def lw_okq (q : MethodName × Nat) : Prop := (q.1.cls ≠ "java/lang/invoke/MethodHandle" ∧ q.1.cls ≠ "java/lang/invoke/VarHandle") ∧ Cond.instantiable q.1.cls q.2 ∈ tables_1 ∧ Cond.privateMethod q.1 ∈ tables_1 ∧ Cond.instanceMethod q.1 ∈ tables_1
theorem lw_p0 : lw_okq (⟨"TreeCoverForge", "forgetConclusions", "()V"⟩, 6) := ⟨⟨by decide +kernel, by decide +kernel⟩, List.mem_of_getElem? (i := 11) (by decide +kernel), List.mem_of_getElem? (i := 235) (by decide +kernel), List.mem_of_getElem? (i := 236) (by decide +kernel)⟩
theorem lw_p1 : lw_okq (⟨"TreeCoverForge$StateTable", "look", "(LTreeCoverForge$RuleBook;ILTreeCoverForge$Label;LTreeCoverForge$Label;)V"⟩, 4) := ⟨⟨by decide +kernel, by decide +kernel⟩, List.mem_of_getElem? (i := 125) (by decide +kernel), List.mem_of_getElem? (i := 262) (by decide +kernel), List.mem_of_getElem? (i := 263) (by decide +kernel)⟩
theorem lw_p2 : lw_okq (⟨"TreeCoverForge$Label", "offer", "(LTreeCoverForge$RuleBook;IJ)Z"⟩, 2) := ⟨⟨by decide +kernel, by decide +kernel⟩, List.mem_of_getElem? (i := 70) (by decide +kernel), List.mem_of_getElem? (i := 279) (by decide +kernel), List.mem_of_getElem? (i := 280) (by decide +kernel)⟩
theorem lw_p3 : lw_okq (⟨"TreeCoverForge$Label", "applyChains", "(LTreeCoverForge$RuleBook;)V"⟩, 2) := ⟨⟨by decide +kernel, by decide +kernel⟩, List.mem_of_getElem? (i := 70) (by decide +kernel), List.mem_of_getElem? (i := 283) (by decide +kernel), List.mem_of_getElem? (i := 284) (by decide +kernel)⟩
theorem lw_p4 : lw_okq (⟨"TreeCoverForge$StateTable", "lookAtPair", "(LTreeCoverForge$RuleBook;II)V"⟩, 4) := ⟨⟨by decide +kernel, by decide +kernel⟩, List.mem_of_getElem? (i := 125) (by decide +kernel), List.mem_of_getElem? (i := 299) (by decide +kernel), List.mem_of_getElem? (i := 300) (by decide +kernel)⟩
theorem lw_p5 : lw_okq (⟨"TreeCoverForge", "isTopNode", "(I)Z"⟩, 6) := ⟨⟨by decide +kernel, by decide +kernel⟩, List.mem_of_getElem? (i := 11) (by decide +kernel), List.mem_of_getElem? (i := 358) (by decide +kernel), List.mem_of_getElem? (i := 359) (by decide +kernel)⟩
theorem lw_p6 : lw_okq (⟨"TreeCoverForge$Code", "chooseKinds", "(LTreeCoverForge$RuleBook;LTreeCoverForge$Pile;)V"⟩, 15) := ⟨⟨by decide +kernel, by decide +kernel⟩, List.mem_of_getElem? (i := 147) (by decide +kernel), List.mem_of_getElem? (i := 393) (by decide +kernel), List.mem_of_getElem? (i := 394) (by decide +kernel)⟩
theorem lw_p7 : lw_okq (⟨"TreeCoverForge$Code", "followChoices", "(LTreeCoverForge$RuleBook;LTreeCoverForge$Pile;I)I"⟩, 15) := ⟨⟨by decide +kernel, by decide +kernel⟩, List.mem_of_getElem? (i := 147) (by decide +kernel), List.mem_of_getElem? (i := 398) (by decide +kernel), List.mem_of_getElem? (i := 399) (by decide +kernel)⟩
theorem lw_p8 : lw_okq (⟨"TreeCoverForge$Code", "writeOperator", "(LTreeCoverForge$Pile;II)V"⟩, 15) := ⟨⟨by decide +kernel, by decide +kernel⟩, List.mem_of_getElem? (i := 147) (by decide +kernel), List.mem_of_getElem? (i := 404) (by decide +kernel), List.mem_of_getElem? (i := 405) (by decide +kernel)⟩
theorem lw_p9 : lw_okq (⟨"TreeCoverForge$Code", "append", "(IIIIII)V"⟩, 15) := ⟨⟨by decide +kernel, by decide +kernel⟩, List.mem_of_getElem? (i := 147) (by decide +kernel), List.mem_of_getElem? (i := 408) (by decide +kernel), List.mem_of_getElem? (i := 409) (by decide +kernel)⟩
theorem lw_p10 : lw_okq (⟨"TreeCoverForge$Code", "releaseUntil", "(II)V"⟩, 15) := ⟨⟨by decide +kernel, by decide +kernel⟩, List.mem_of_getElem? (i := 147) (by decide +kernel), List.mem_of_getElem? (i := 417) (by decide +kernel), List.mem_of_getElem? (i := 418) (by decide +kernel)⟩
theorem lw_p11 : lw_okq (⟨"TreeCoverForge$Code", "leastFree", "(I)I"⟩, 15) := ⟨⟨by decide +kernel, by decide +kernel⟩, List.mem_of_getElem? (i := 147) (by decide +kernel), List.mem_of_getElem? (i := 421) (by decide +kernel), List.mem_of_getElem? (i := 422) (by decide +kernel)⟩
theorem lw_p12 : lw_okq (⟨"TreeCoverForge$Code", "spillFor", "(II)V"⟩, 15) := ⟨⟨by decide +kernel, by decide +kernel⟩, List.mem_of_getElem? (i := 147) (by decide +kernel), List.mem_of_getElem? (i := 425) (by decide +kernel), List.mem_of_getElem? (i := 426) (by decide +kernel)⟩
theorem lw_p13 : lw_okq (⟨"TreeCoverForge$Code", "isNeededLonger", "(II)Z"⟩, 15) := ⟨⟨by decide +kernel, by decide +kernel⟩, List.mem_of_getElem? (i := 147) (by decide +kernel), List.mem_of_getElem? (i := 429) (by decide +kernel), List.mem_of_getElem? (i := 430) (by decide +kernel)⟩
theorem lw_p14 : lw_okq (⟨"TreeCoverForge$Code", "placeOf", "(I)I"⟩, 15) := ⟨⟨by decide +kernel, by decide +kernel⟩, List.mem_of_getElem? (i := 147) (by decide +kernel), List.mem_of_getElem? (i := 441) (by decide +kernel), List.mem_of_getElem? (i := 442) (by decide +kernel)⟩
theorem lw_p15 : lw_okq (⟨"TreeCoverForgeModel", "combine", "(I)V"⟩, 39) := ⟨⟨by decide +kernel, by decide +kernel⟩, List.mem_of_getElem? (i := 473) (by decide +kernel), List.mem_of_getElem? (i := 612) (by decide +kernel), List.mem_of_getElem? (i := 613) (by decide +kernel)⟩
def lw_privs_1 : List (MethodName × Nat) := [(⟨"TreeCoverForge", "forgetConclusions", "()V"⟩, 6), (⟨"TreeCoverForge$StateTable", "look", "(LTreeCoverForge$RuleBook;ILTreeCoverForge$Label;LTreeCoverForge$Label;)V"⟩, 4), (⟨"TreeCoverForge$Label", "offer", "(LTreeCoverForge$RuleBook;IJ)Z"⟩, 2), (⟨"TreeCoverForge$Label", "applyChains", "(LTreeCoverForge$RuleBook;)V"⟩, 2), (⟨"TreeCoverForge$StateTable", "lookAtPair", "(LTreeCoverForge$RuleBook;II)V"⟩, 4), (⟨"TreeCoverForge", "isTopNode", "(I)Z"⟩, 6), (⟨"TreeCoverForge$Code", "chooseKinds", "(LTreeCoverForge$RuleBook;LTreeCoverForge$Pile;)V"⟩, 15), (⟨"TreeCoverForge$Code", "followChoices", "(LTreeCoverForge$RuleBook;LTreeCoverForge$Pile;I)I"⟩, 15), (⟨"TreeCoverForge$Code", "writeOperator", "(LTreeCoverForge$Pile;II)V"⟩, 15), (⟨"TreeCoverForge$Code", "append", "(IIIIII)V"⟩, 15), (⟨"TreeCoverForge$Code", "releaseUntil", "(II)V"⟩, 15), (⟨"TreeCoverForge$Code", "leastFree", "(I)I"⟩, 15), (⟨"TreeCoverForge$Code", "spillFor", "(II)V"⟩, 15), (⟨"TreeCoverForge$Code", "isNeededLonger", "(II)Z"⟩, 15), (⟨"TreeCoverForge$Code", "placeOf", "(I)I"⟩, 15), (⟨"TreeCoverForgeModel", "combine", "(I)V"⟩, 39)]
theorem lw_r1 : ∀ q ∈ lw_privs_1, lw_okq q := List.forall_mem_cons.mpr ⟨lw_p0, List.forall_mem_cons.mpr ⟨lw_p1, List.forall_mem_cons.mpr ⟨lw_p2, List.forall_mem_cons.mpr ⟨lw_p3, List.forall_mem_cons.mpr ⟨lw_p4, List.forall_mem_cons.mpr ⟨lw_p5, List.forall_mem_cons.mpr ⟨lw_p6, List.forall_mem_cons.mpr ⟨lw_p7, List.forall_mem_cons.mpr ⟨lw_p8, List.forall_mem_cons.mpr ⟨lw_p9, List.forall_mem_cons.mpr ⟨lw_p10, List.forall_mem_cons.mpr ⟨lw_p11, List.forall_mem_cons.mpr ⟨lw_p12, List.forall_mem_cons.mpr ⟨lw_p13, List.forall_mem_cons.mpr ⟨lw_p14, List.forall_mem_cons.mpr ⟨lw_p15, fun _ h => absurd h List.not_mem_nil⟩⟩⟩⟩⟩⟩⟩⟩⟩⟩⟩⟩⟩⟩⟩⟩
theorem lw_p16 : lw_okq (⟨"TreeCoverForgeModel", "through", "(II)J"⟩, 39) := ⟨⟨by decide +kernel, by decide +kernel⟩, List.mem_of_getElem? (i := 473) (by decide +kernel), List.mem_of_getElem? (i := 617) (by decide +kernel), List.mem_of_getElem? (i := 618) (by decide +kernel)⟩
theorem lw_p17 : lw_okq (⟨"TreeCoverForgeModel", "known", "()Z"⟩, 39) := ⟨⟨by decide +kernel, by decide +kernel⟩, List.mem_of_getElem? (i := 473) (by decide +kernel), List.mem_of_getElem? (i := 624) (by decide +kernel), List.mem_of_getElem? (i := 625) (by decide +kernel)⟩
theorem lw_p18 : lw_okq (⟨"TreeCoverForgeModel", "lowest", "()J"⟩, 39) := ⟨⟨by decide +kernel, by decide +kernel⟩, List.mem_of_getElem? (i := 473) (by decide +kernel), List.mem_of_getElem? (i := 628) (by decide +kernel), List.mem_of_getElem? (i := 629) (by decide +kernel)⟩
theorem lw_p19 : lw_okq (⟨"TreeCoverForgeModel", "reach", "(III)Z"⟩, 39) := ⟨⟨by decide +kernel, by decide +kernel⟩, List.mem_of_getElem? (i := 473) (by decide +kernel), List.mem_of_getElem? (i := 632) (by decide +kernel), List.mem_of_getElem? (i := 633) (by decide +kernel)⟩
theorem lw_p20 : lw_okq (⟨"TreeCoverForgeModel", "noNode", "(II)Z"⟩, 39) := ⟨⟨by decide +kernel, by decide +kernel⟩, List.mem_of_getElem? (i := 473) (by decide +kernel), List.mem_of_getElem? (i := 656) (by decide +kernel), List.mem_of_getElem? (i := 657) (by decide +kernel)⟩
theorem lw_p21 : lw_okq (⟨"TreeCoverForgeModel", "work", "()Z"⟩, 39) := ⟨⟨by decide +kernel, by decide +kernel⟩, List.mem_of_getElem? (i := 473) (by decide +kernel), List.mem_of_getElem? (i := 661) (by decide +kernel), List.mem_of_getElem? (i := 662) (by decide +kernel)⟩
theorem lw_p22 : lw_okq (⟨"TreeCoverForgeModel", "takeKids", "(I)V"⟩, 39) := ⟨⟨by decide +kernel, by decide +kernel⟩, List.mem_of_getElem? (i := 473) (by decide +kernel), List.mem_of_getElem? (i := 665) (by decide +kernel), List.mem_of_getElem? (i := 666) (by decide +kernel)⟩
theorem lw_p23 : lw_okq (⟨"TreeCoverForgeModel", "want", "(I)V"⟩, 39) := ⟨⟨by decide +kernel, by decide +kernel⟩, List.mem_of_getElem? (i := 473) (by decide +kernel), List.mem_of_getElem? (i := 685) (by decide +kernel), List.mem_of_getElem? (i := 686) (by decide +kernel)⟩
theorem lw_p24 : lw_okq (⟨"TreeCoverForgeModel", "emit", "(II)V"⟩, 39) := ⟨⟨by decide +kernel, by decide +kernel⟩, List.mem_of_getElem? (i := 473) (by decide +kernel), List.mem_of_getElem? (i := 689) (by decide +kernel), List.mem_of_getElem? (i := 690) (by decide +kernel)⟩
theorem lw_p25 : lw_okq (⟨"TreeCoverForgeModel", "write", "(IIIII)V"⟩, 39) := ⟨⟨by decide +kernel, by decide +kernel⟩, List.mem_of_getElem? (i := 473) (by decide +kernel), List.mem_of_getElem? (i := 693) (by decide +kernel), List.mem_of_getElem? (i := 694) (by decide +kernel)⟩
theorem lw_p26 : lw_okq (⟨"TreeCoverForgeModel", "settle", "(I)V"⟩, 39) := ⟨⟨by decide +kernel, by decide +kernel⟩, List.mem_of_getElem? (i := 473) (by decide +kernel), List.mem_of_getElem? (i := 697) (by decide +kernel), List.mem_of_getElem? (i := 698) (by decide +kernel)⟩
theorem lw_p27 : lw_okq (⟨"TreeCoverForgeModel", "holds", "(II)Z"⟩, 39) := ⟨⟨by decide +kernel, by decide +kernel⟩, List.mem_of_getElem? (i := 473) (by decide +kernel), List.mem_of_getElem? (i := 701) (by decide +kernel), List.mem_of_getElem? (i := 702) (by decide +kernel)⟩
theorem lw_p28 : lw_okq (⟨"TreeCoverForgeModel", "calculate", "(IIII)I"⟩, 39) := ⟨⟨by decide +kernel, by decide +kernel⟩, List.mem_of_getElem? (i := 473) (by decide +kernel), List.mem_of_getElem? (i := 721) (by decide +kernel), List.mem_of_getElem? (i := 722) (by decide +kernel)⟩
def lw_privs_2 : List (MethodName × Nat) := [(⟨"TreeCoverForgeModel", "through", "(II)J"⟩, 39), (⟨"TreeCoverForgeModel", "known", "()Z"⟩, 39), (⟨"TreeCoverForgeModel", "lowest", "()J"⟩, 39), (⟨"TreeCoverForgeModel", "reach", "(III)Z"⟩, 39), (⟨"TreeCoverForgeModel", "noNode", "(II)Z"⟩, 39), (⟨"TreeCoverForgeModel", "work", "()Z"⟩, 39), (⟨"TreeCoverForgeModel", "takeKids", "(I)V"⟩, 39), (⟨"TreeCoverForgeModel", "want", "(I)V"⟩, 39), (⟨"TreeCoverForgeModel", "emit", "(II)V"⟩, 39), (⟨"TreeCoverForgeModel", "write", "(IIIII)V"⟩, 39), (⟨"TreeCoverForgeModel", "settle", "(I)V"⟩, 39), (⟨"TreeCoverForgeModel", "holds", "(II)Z"⟩, 39), (⟨"TreeCoverForgeModel", "calculate", "(IIII)I"⟩, 39)]
theorem lw_r2 : ∀ q ∈ lw_privs_2, lw_okq q := List.forall_mem_cons.mpr ⟨lw_p16, List.forall_mem_cons.mpr ⟨lw_p17, List.forall_mem_cons.mpr ⟨lw_p18, List.forall_mem_cons.mpr ⟨lw_p19, List.forall_mem_cons.mpr ⟨lw_p20, List.forall_mem_cons.mpr ⟨lw_p21, List.forall_mem_cons.mpr ⟨lw_p22, List.forall_mem_cons.mpr ⟨lw_p23, List.forall_mem_cons.mpr ⟨lw_p24, List.forall_mem_cons.mpr ⟨lw_p25, List.forall_mem_cons.mpr ⟨lw_p26, List.forall_mem_cons.mpr ⟨lw_p27, List.forall_mem_cons.mpr ⟨lw_p28, fun _ h => absurd h List.not_mem_nil⟩⟩⟩⟩⟩⟩⟩⟩⟩⟩⟩⟩⟩
def lw_privs : List (MethodName × Nat) := lw_privs_1 ++ (lw_privs_2)
def lw_tbl : List Cond := k2_sels lw_privs ++ tables_1
theorem lw_privs_ok : ∀ q ∈ lw_privs, lw_okq q := by
  show ∀ q ∈ lw_privs_1 ++ (lw_privs_2), lw_okq q
  exact List.forall_mem_append.mpr ⟨lw_r1, lw_r2⟩
end
section
/-! Names: classes, fields, methods, and the words of the tables by their places. Laid by wip/whole/prog/names.py out of the Statement and the listing. -/
/-- the words that every call keeps; those of nest mates are carried beside them -/
def zz_tbl : List Cond := lw_tbl.filter goodWord
theorem zz_in {w : Cond} {i : Nat} (h : lw_tbl[i]? = some w) (hg : goodWord w = true) : w ∈ zz_tbl := List.mem_filter.mpr ⟨List.mem_of_getElem? h, hg⟩
def zz_isN : Cond → Bool
  | .methodLinkNest .. => true
  | .fieldLinkNest .. => true
  | _ => false
def R_Forge : String := "TreeCoverForge"
def F_Forge : u_T := fun k => match k with
  | 0 => ("TreeCoverForge", "book", "LTreeCoverForge$RuleBook;", true)
  | 1 => ("TreeCoverForge", "pile", "LTreeCoverForge$Pile;", true)
  | 2 => ("TreeCoverForge", "table", "LTreeCoverForge$StateTable;", true)
  | 3 => ("TreeCoverForge", "code", "LTreeCoverForge$Code;", true)
  | 4 => ("TreeCoverForge", "variables", "[I", true)
  | _ => ("TreeCoverForge", "registerCount", "I", false)
def t_Forge : Nat → FieldType := fun k => match k with
  | 0 => .object "TreeCoverForge$RuleBook"
  | 1 => .object "TreeCoverForge$Pile"
  | 2 => .object "TreeCoverForge$StateTable"
  | 3 => .object "TreeCoverForge$Code"
  | 4 => .array .int
  | _ => .int
theorem n_Forge : ∀ a, a < 6 → ∀ b, b < 6 → a ≠ b → (F_Forge a).2.1 ≠ (F_Forge b).2.1 := by decide +kernel
theorem t_Forge_ok : ∀ k, k < 6 → parseFieldDescriptor (F_Forge k).2.2.1 = some (t_Forge k) := by decide +kernel
set_option maxRecDepth 100000 in
theorem hin_Forge : ∀ w ∈ u_ws R_Forge F_Forge 6, w ∈ zz_tbl := by decide +kernel
def R_Book : String := "TreeCoverForge$RuleBook"
def F_Book : u_T := fun k => match k with
  | 0 => ("TreeCoverForge$RuleBook", "kinds", "[I", true)
  | 1 => ("TreeCoverForge$RuleBook", "ops", "[I", true)
  | 2 => ("TreeCoverForge$RuleBook", "firsts", "[I", true)
  | 3 => ("TreeCoverForge$RuleBook", "seconds", "[I", true)
  | 4 => ("TreeCoverForge$RuleBook", "costs", "[I", true)
  | 5 => ("TreeCoverForge$RuleBook", "numbersOf", "[[I", true)
  | 6 => ("TreeCoverForge$RuleBook", "sizeOf", "[I", true)
  | _ => ("TreeCoverForge$RuleBook", "count", "I", false)
def t_Book : Nat → FieldType := fun k => match k with
  | 0 => .array .int
  | 1 => .array .int
  | 2 => .array .int
  | 3 => .array .int
  | 4 => .array .int
  | 5 => .array (.array .int)
  | 6 => .array .int
  | _ => .int
theorem n_Book : ∀ a, a < 8 → ∀ b, b < 8 → a ≠ b → (F_Book a).2.1 ≠ (F_Book b).2.1 := by decide +kernel
theorem t_Book_ok : ∀ k, k < 8 → parseFieldDescriptor (F_Book k).2.2.1 = some (t_Book k) := by decide +kernel
set_option maxRecDepth 100000 in
theorem hin_Book : ∀ w ∈ u_ws R_Book F_Book 8, w ∈ zz_tbl := by decide +kernel
def R_Label : String := "TreeCoverForge$Label"
def F_Label : u_T := fun k => match k with
  | 0 => ("TreeCoverForge$Label", "costs", "[J", true)
  | _ => ("TreeCoverForge$Label", "choices", "[I", true)
def t_Label : Nat → FieldType := fun k => match k with
  | 0 => .array .long
  | _ => .array .int
theorem n_Label : ∀ a, a < 2 → ∀ b, b < 2 → a ≠ b → (F_Label a).2.1 ≠ (F_Label b).2.1 := by decide +kernel
theorem t_Label_ok : ∀ k, k < 2 → parseFieldDescriptor (F_Label k).2.2.1 = some (t_Label k) := by decide +kernel
set_option maxRecDepth 100000 in
theorem hin_Label : ∀ w ∈ u_ws R_Label F_Label 2, w ∈ zz_tbl := by decide +kernel
def R_Table : String := "TreeCoverForge$StateTable"
def F_Table : u_T := fun k => match k with
  | 0 => ("TreeCoverForge$StateTable", "found", "[LTreeCoverForge$Label;", true)
  | 1 => ("TreeCoverForge$StateTable", "noKid", "LTreeCoverForge$Label;", true)
  | 2 => ("TreeCoverForge$StateTable", "foundCount", "I", false)
  | _ => ("TreeCoverForge$StateTable", "counted", "I", false)
def t_Table : Nat → FieldType := fun k => match k with
  | 0 => .array (.object "TreeCoverForge$Label")
  | 1 => .object "TreeCoverForge$Label"
  | 2 => .int
  | _ => .int
theorem n_Table : ∀ a, a < 4 → ∀ b, b < 4 → a ≠ b → (F_Table a).2.1 ≠ (F_Table b).2.1 := by decide +kernel
theorem t_Table_ok : ∀ k, k < 4 → parseFieldDescriptor (F_Table k).2.2.1 = some (t_Table k) := by decide +kernel
set_option maxRecDepth 100000 in
theorem hin_Table : ∀ w ∈ u_ws R_Table F_Table 4, w ∈ zz_tbl := by decide +kernel
def R_Pile : String := "TreeCoverForge$Pile"
def F_Pile : u_T := fun k => match k with
  | 0 => ("TreeCoverForge$Pile", "ops", "[I", true)
  | 1 => ("TreeCoverForge$Pile", "numbers", "[I", true)
  | 2 => ("TreeCoverForge$Pile", "sizes", "[I", true)
  | 3 => ("TreeCoverForge$Pile", "heights", "[I", true)
  | 4 => ("TreeCoverForge$Pile", "results", "[I", true)
  | 5 => ("TreeCoverForge$Pile", "labels", "[LTreeCoverForge$Label;", true)
  | 6 => ("TreeCoverForge$Pile", "noKid", "LTreeCoverForge$Label;", true)
  | 7 => ("TreeCoverForge$Pile", "nodeCount", "I", false)
  | 8 => ("TreeCoverForge$Pile", "treeCount", "I", false)
  | _ => ("TreeCoverForge$Pile", "labelledCount", "I", false)
def t_Pile : Nat → FieldType := fun k => match k with
  | 0 => .array .int
  | 1 => .array .int
  | 2 => .array .int
  | 3 => .array .int
  | 4 => .array .int
  | 5 => .array (.object "TreeCoverForge$Label")
  | 6 => .object "TreeCoverForge$Label"
  | 7 => .int
  | 8 => .int
  | _ => .int
theorem n_Pile : ∀ a, a < 10 → ∀ b, b < 10 → a ≠ b → (F_Pile a).2.1 ≠ (F_Pile b).2.1 := by decide +kernel
theorem t_Pile_ok : ∀ k, k < 10 → parseFieldDescriptor (F_Pile k).2.2.1 = some (t_Pile k) := by decide +kernel
set_option maxRecDepth 100000 in
theorem hin_Pile : ∀ w ∈ u_ws R_Pile F_Pile 10, w ∈ zz_tbl := by decide +kernel
def R_Code : String := "TreeCoverForge$Code"
def F_Code : u_T := fun k => match k with
  | 0 => ("TreeCoverForge$Code", "rules", "[I", true)
  | 1 => ("TreeCoverForge$Code", "nodes", "[I", true)
  | 2 => ("TreeCoverForge$Code", "ops", "[I", true)
  | 3 => ("TreeCoverForge$Code", "numbers", "[I", true)
  | 4 => ("TreeCoverForge$Code", "firsts", "[I", true)
  | 5 => ("TreeCoverForge$Code", "seconds", "[I", true)
  | 6 => ("TreeCoverForge$Code", "lastUses", "[I", true)
  | 7 => ("TreeCoverForge$Code", "places", "[I", true)
  | 8 => ("TreeCoverForge$Code", "memory", "[I", true)
  | 9 => ("TreeCoverForge$Code", "holders", "[I", true)
  | 10 => ("TreeCoverForge$Code", "kinds", "[I", true)
  | 11 => ("TreeCoverForge$Code", "latest", "[I", true)
  | 12 => ("TreeCoverForge$Code", "path", "[I", true)
  | 13 => ("TreeCoverForge$Code", "count", "I", false)
  | _ => ("TreeCoverForge$Code", "slotCount", "I", false)
def t_Code : Nat → FieldType := fun k => match k with
  | 0 => .array .int
  | 1 => .array .int
  | 2 => .array .int
  | 3 => .array .int
  | 4 => .array .int
  | 5 => .array .int
  | 6 => .array .int
  | 7 => .array .int
  | 8 => .array .int
  | 9 => .array .int
  | 10 => .array .int
  | 11 => .array .int
  | 12 => .array .int
  | 13 => .int
  | _ => .int
theorem n_Code : ∀ a, a < 15 → ∀ b, b < 15 → a ≠ b → (F_Code a).2.1 ≠ (F_Code b).2.1 := by decide +kernel
theorem t_Code_ok : ∀ k, k < 15 → parseFieldDescriptor (F_Code k).2.2.1 = some (t_Code k) := by decide +kernel
set_option maxRecDepth 100000 in
theorem hin_Code : ∀ w ∈ u_ws R_Code F_Code 15, w ∈ zz_tbl := by decide +kernel
def R_Model : String := "TreeCoverForgeModel"
def F_Model : u_T := fun k => match k with
  | 0 => ("TreeCoverForgeModel", "rules", "I", false)
  | 1 => ("TreeCoverForgeModel", "makes", "[I", true)
  | 2 => ("TreeCoverForgeModel", "operator", "[I", true)
  | 3 => ("TreeCoverForgeModel", "first", "[I", true)
  | 4 => ("TreeCoverForgeModel", "second", "[I", true)
  | 5 => ("TreeCoverForgeModel", "price", "[I", true)
  | 6 => ("TreeCoverForgeModel", "total", "I", false)
  | 7 => ("TreeCoverForgeModel", "op", "[I", true)
  | 8 => ("TreeCoverForgeModel", "number", "[I", true)
  | 9 => ("TreeCoverForgeModel", "size", "[I", true)
  | 10 => ("TreeCoverForgeModel", "height", "[I", true)
  | 11 => ("TreeCoverForgeModel", "many", "I", false)
  | 12 => ("TreeCoverForgeModel", "start", "[I", true)
  | 13 => ("TreeCoverForgeModel", "least", "[J", true)
  | 14 => ("TreeCoverForgeModel", "chosen", "[I", true)
  | 15 => ("TreeCoverForgeModel", "left", "[J", true)
  | 16 => ("TreeCoverForgeModel", "right", "[J", true)
  | 17 => ("TreeCoverForgeModel", "got", "[J", true)
  | 18 => ("TreeCoverForgeModel", "pick", "[I", true)
  | 19 => ("TreeCoverForgeModel", "stateCount", "I", false)
  | 20 => ("TreeCoverForgeModel", "stateCost", "[J", true)
  | 21 => ("TreeCoverForgeModel", "statePick", "[I", true)
  | 22 => ("TreeCoverForgeModel", "length", "I", false)
  | 23 => ("TreeCoverForgeModel", "slotCount", "I", false)
  | 24 => ("TreeCoverForgeModel", "registers", "I", false)
  | 25 => ("TreeCoverForgeModel", "codeRule", "[I", true)
  | 26 => ("TreeCoverForgeModel", "codeNode", "[I", true)
  | 27 => ("TreeCoverForgeModel", "codeOp", "[I", true)
  | 28 => ("TreeCoverForgeModel", "codeNumber", "[I", true)
  | 29 => ("TreeCoverForgeModel", "sourceA", "[I", true)
  | 30 => ("TreeCoverForgeModel", "sourceB", "[I", true)
  | 31 => ("TreeCoverForgeModel", "until", "[I", true)
  | 32 => ("TreeCoverForgeModel", "place", "[I", true)
  | 33 => ("TreeCoverForgeModel", "result", "[I", true)
  | 34 => ("TreeCoverForgeModel", "wanted", "[I", true)
  | 35 => ("TreeCoverForgeModel", "latest", "[I", true)
  | 36 => ("TreeCoverForgeModel", "chain", "[I", true)
  | 37 => ("TreeCoverForgeModel", "variables", "[I", true)
  | _ => ("TreeCoverForgeModel", "values", "[I", true)
def t_Model : Nat → FieldType := fun k => match k with
  | 0 => .int
  | 1 => .array .int
  | 2 => .array .int
  | 3 => .array .int
  | 4 => .array .int
  | 5 => .array .int
  | 6 => .int
  | 7 => .array .int
  | 8 => .array .int
  | 9 => .array .int
  | 10 => .array .int
  | 11 => .int
  | 12 => .array .int
  | 13 => .array .long
  | 14 => .array .int
  | 15 => .array .long
  | 16 => .array .long
  | 17 => .array .long
  | 18 => .array .int
  | 19 => .int
  | 20 => .array .long
  | 21 => .array .int
  | 22 => .int
  | 23 => .int
  | 24 => .int
  | 25 => .array .int
  | 26 => .array .int
  | 27 => .array .int
  | 28 => .array .int
  | 29 => .array .int
  | 30 => .array .int
  | 31 => .array .int
  | 32 => .array .int
  | 33 => .array .int
  | 34 => .array .int
  | 35 => .array .int
  | 36 => .array .int
  | 37 => .array .int
  | _ => .array .int
theorem n_Model : ∀ a, a < 39 → ∀ b, b < 39 → a ≠ b → (F_Model a).2.1 ≠ (F_Model b).2.1 := by decide +kernel
theorem t_Model_ok : ∀ k, k < 39 → parseFieldDescriptor (F_Model k).2.2.1 = some (t_Model k) := by decide +kernel
set_option maxRecDepth 100000 in
theorem hin_Model : ∀ w ∈ u_ws R_Model F_Model 39, w ∈ zz_tbl := by decide +kernel
abbrev b_Forge_init : ByteArray := prog_1_method_1_code
def y_Forge_init : MethodName := ⟨"TreeCoverForge", "<init>", "()V"⟩
abbrev rm_Forge_init : Room := { frames := 3, cells := 0, slots := 0, locals := 61 }
abbrev b_Object_init : ByteArray := object_method_1_code
def y_Object_init : MethodName := ⟨"java/lang/Object", "<init>", "()V"⟩
abbrev rm_Object_init : Room := { frames := 0, cells := 0, slots := 0, locals := 0 }
abbrev b_Book_init : ByteArray := prog_5_method_1_code
def y_Book_init : MethodName := ⟨"TreeCoverForge$RuleBook", "<init>", "()V"⟩
abbrev rm_Book_init : Room := { frames := 1, cells := 0, slots := 0, locals := 20 }
abbrev b_Pile_init : ByteArray := prog_4_method_1_code
def y_Pile_init : MethodName := ⟨"TreeCoverForge$Pile", "<init>", "()V"⟩
abbrev rm_Pile_init : Room := { frames := 2, cells := 0, slots := 0, locals := 40 }
abbrev b_Label_init : ByteArray := prog_3_method_1_code
def y_Label_init : MethodName := ⟨"TreeCoverForge$Label", "<init>", "()V"⟩
abbrev rm_Label_init : Room := { frames := 1, cells := 0, slots := 0, locals := 20 }
abbrev b_Table_init : ByteArray := prog_6_method_1_code
def y_Table_init : MethodName := ⟨"TreeCoverForge$StateTable", "<init>", "()V"⟩
abbrev rm_Table_init : Room := { frames := 2, cells := 0, slots := 0, locals := 40 }
abbrev b_Code_init : ByteArray := prog_2_method_1_code
def y_Code_init : MethodName := ⟨"TreeCoverForge$Code", "<init>", "()V"⟩
abbrev rm_Code_init : Room := { frames := 1, cells := 0, slots := 0, locals := 20 }
abbrev b_Forge_rule : ByteArray := prog_1_method_2_code
def y_Forge_rule : MethodName := ⟨"TreeCoverForge", "rule", "(IIIII)I"⟩
abbrev rm_Forge_rule : Room := { frames := 1, cells := 0, slots := 0, locals := 26 }
abbrev b_Forge_isKind : ByteArray := prog_1_method_21_code
def y_Forge_isKind : MethodName := ⟨"TreeCoverForge", "isKind", "(I)Z"⟩
abbrev rm_Forge_isKind : Room := { frames := 0, cells := 0, slots := 0, locals := 0 }
abbrev b_Forge_fitsOperator : ByteArray := prog_1_method_24_code
def y_Forge_fitsOperator : MethodName := ⟨"TreeCoverForge", "fitsOperator", "(IIII)Z"⟩
abbrev rm_Forge_fitsOperator : Room := { frames := 0, cells := 0, slots := 0, locals := 0 }
abbrev b_Forge_isCostFor : ByteArray := prog_1_method_25_code
def y_Forge_isCostFor : MethodName := ⟨"TreeCoverForge", "isCostFor", "(II)Z"⟩
abbrev rm_Forge_isCostFor : Room := { frames := 0, cells := 0, slots := 0, locals := 0 }
abbrev b_Forge_forgetConclusions : ByteArray := prog_1_method_19_code
def y_Forge_forgetConclusions : MethodName := ⟨"TreeCoverForge", "forgetConclusions", "()V"⟩
abbrev rm_Forge_forgetConclusions : Room := { frames := 0, cells := 0, slots := 0, locals := 0 }
abbrev b_Book_add : ByteArray := prog_5_method_2_code
def y_Book_add : MethodName := ⟨"TreeCoverForge$RuleBook", "add", "(IIIII)I"⟩
abbrev rm_Book_add : Room := { frames := 0, cells := 0, slots := 0, locals := 0 }
abbrev b_Forge_clear : ByteArray := prog_1_method_3_code
def y_Forge_clear : MethodName := ⟨"TreeCoverForge", "clear", "()V"⟩
abbrev rm_Forge_clear : Room := { frames := 2, cells := 0, slots := 0, locals := 43 }
abbrev b_Book_removeAll : ByteArray := prog_5_method_3_code
def y_Book_removeAll : MethodName := ⟨"TreeCoverForge$RuleBook", "removeAll", "()V"⟩
abbrev rm_Book_removeAll : Room := { frames := 1, cells := 0, slots := 0, locals := 23 }
abbrev b_Arrays_fillI : ByteArray := prog_10_method_103_code
def y_Arrays_fillI : MethodName := ⟨"java/util/Arrays", "fill", "([II)V"⟩
abbrev rm_Arrays_fillI : Room := { frames := 0, cells := 0, slots := 0, locals := 0 }
abbrev b_Forge_states : ByteArray := prog_1_method_4_code
def y_Forge_states : MethodName := ⟨"TreeCoverForge", "states", "()I"⟩
abbrev rm_Forge_states : Room := { frames := 6, cells := 0, slots := 0, locals := 157 }
abbrev b_Table_findAll : ByteArray := prog_6_method_2_code
def y_Table_findAll : MethodName := ⟨"TreeCoverForge$StateTable", "findAll", "(LTreeCoverForge$RuleBook;)V"⟩
abbrev rm_Table_findAll : Room := { frames := 5, cells := 0, slots := 0, locals := 134 }
abbrev b_Table_look : ByteArray := prog_6_method_4_code
def y_Table_look : MethodName := ⟨"TreeCoverForge$StateTable", "look", "(LTreeCoverForge$RuleBook;ILTreeCoverForge$Label;LTreeCoverForge$Label;)V"⟩
abbrev rm_Table_look : Room := { frames := 3, cells := 0, slots := 0, locals := 84 }
abbrev b_Label_derive : ByteArray := prog_3_method_3_code
def y_Label_derive : MethodName := ⟨"TreeCoverForge$Label", "derive", "(LTreeCoverForge$RuleBook;ILTreeCoverForge$Label;LTreeCoverForge$Label;)V"⟩
abbrev rm_Label_derive : Room := { frames := 2, cells := 0, slots := 0, locals := 55 }
abbrev b_Arrays_fillJ : ByteArray := prog_10_method_101_code
def y_Arrays_fillJ : MethodName := ⟨"java/util/Arrays", "fill", "([JJ)V"⟩
abbrev rm_Arrays_fillJ : Room := { frames := 0, cells := 0, slots := 0, locals := 0 }
abbrev b_Label_isCovered : ByteArray := prog_3_method_2_code
def y_Label_isCovered : MethodName := ⟨"TreeCoverForge$Label", "isCovered", "(I)Z"⟩
abbrev rm_Label_isCovered : Room := { frames := 0, cells := 0, slots := 0, locals := 0 }
abbrev b_Label_offer : ByteArray := prog_3_method_5_code
def y_Label_offer : MethodName := ⟨"TreeCoverForge$Label", "offer", "(LTreeCoverForge$RuleBook;IJ)Z"⟩
abbrev rm_Label_offer : Room := { frames := 0, cells := 0, slots := 0, locals := 0 }
abbrev b_Label_applyChains : ByteArray := prog_3_method_4_code
def y_Label_applyChains : MethodName := ⟨"TreeCoverForge$Label", "applyChains", "(LTreeCoverForge$RuleBook;)V"⟩
abbrev rm_Label_applyChains : Room := { frames := 1, cells := 0, slots := 0, locals := 28 }
abbrev b_Label_makeRelative : ByteArray := prog_3_method_7_code
def y_Label_makeRelative : MethodName := ⟨"TreeCoverForge$Label", "makeRelative", "()V"⟩
abbrev rm_Label_makeRelative : Room := { frames := 2, cells := 0, slots := 0, locals := 44 }
abbrev b_Label_leastCost : ByteArray := prog_3_method_6_code
def y_Label_leastCost : MethodName := ⟨"TreeCoverForge$Label", "leastCost", "()J"⟩
abbrev rm_Label_leastCost : Room := { frames := 1, cells := 0, slots := 0, locals := 21 }
abbrev b_Label_agreesWith : ByteArray := prog_3_method_8_code
def y_Label_agreesWith : MethodName := ⟨"TreeCoverForge$Label", "agreesWith", "(LTreeCoverForge$Label;)Z"⟩
abbrev rm_Label_agreesWith : Room := { frames := 0, cells := 0, slots := 0, locals := 0 }
abbrev b_Table_lookAtPair : ByteArray := prog_6_method_3_code
def y_Table_lookAtPair : MethodName := ⟨"TreeCoverForge$StateTable", "lookAtPair", "(LTreeCoverForge$RuleBook;II)V"⟩
abbrev rm_Table_lookAtPair : Room := { frames := 4, cells := 0, slots := 0, locals := 110 }
abbrev b_Forge_push : ByteArray := prog_1_method_5_code
def y_Forge_push : MethodName := ⟨"TreeCoverForge", "push", "(II)I"⟩
abbrev rm_Forge_push : Room := { frames := 3, cells := 0, slots := 0, locals := 67 }
abbrev b_Forge_isNumberFor : ByteArray := prog_1_method_23_code
def y_Forge_isNumberFor : MethodName := ⟨"TreeCoverForge", "isNumberFor", "(II)Z"⟩
abbrev rm_Forge_isNumberFor : Room := { frames := 1, cells := 0, slots := 0, locals := 20 }
abbrev b_Forge_isVariable : ByteArray := prog_1_method_22_code
def y_Forge_isVariable : MethodName := ⟨"TreeCoverForge", "isVariable", "(I)Z"⟩
abbrev rm_Forge_isVariable : Room := { frames := 0, cells := 0, slots := 0, locals := 0 }
abbrev b_Pile_heightOfNew : ByteArray := prog_4_method_5_code
def y_Pile_heightOfNew : MethodName := ⟨"TreeCoverForge$Pile", "heightOfNew", "(I)I"⟩
abbrev rm_Pile_heightOfNew : Room := { frames := 1, cells := 0, slots := 0, locals := 22 }
abbrev b_Pile_firstKid : ByteArray := prog_4_method_4_code
def y_Pile_firstKid : MethodName := ⟨"TreeCoverForge$Pile", "firstKid", "(II)I"⟩
abbrev rm_Pile_firstKid : Room := { frames := 0, cells := 0, slots := 0, locals := 0 }
abbrev b_Math_max : ByteArray := prog_9_method_65_code
def y_Math_max : MethodName := ⟨"java/lang/Math", "max", "(II)I"⟩
abbrev rm_Math_max : Room := { frames := 0, cells := 0, slots := 0, locals := 0 }
abbrev b_Pile_add : ByteArray := prog_4_method_6_code
def y_Pile_add : MethodName := ⟨"TreeCoverForge$Pile", "add", "(II)V"⟩
abbrev rm_Pile_add : Room := { frames := 2, cells := 0, slots := 0, locals := 43 }
abbrev b_Forge_pop : ByteArray := prog_1_method_6_code
def y_Forge_pop : MethodName := ⟨"TreeCoverForge", "pop", "()Z"⟩
abbrev rm_Forge_pop : Room := { frames := 2, cells := 0, slots := 0, locals := 41 }
abbrev b_Pile_removeTop : ByteArray := prog_4_method_7_code
def y_Pile_removeTop : MethodName := ⟨"TreeCoverForge$Pile", "removeTop", "()V"⟩
abbrev rm_Pile_removeTop : Room := { frames := 1, cells := 0, slots := 0, locals := 21 }
abbrev b_Pile_topSize : ByteArray := prog_4_method_2_code
def y_Pile_topSize : MethodName := ⟨"TreeCoverForge$Pile", "topSize", "()I"⟩
abbrev rm_Pile_topSize : Room := { frames := 0, cells := 0, slots := 0, locals := 0 }
abbrev b_Math_min : ByteArray := prog_9_method_69_code
def y_Math_min : MethodName := ⟨"java/lang/Math", "min", "(II)I"⟩
abbrev rm_Math_min : Room := { frames := 0, cells := 0, slots := 0, locals := 0 }
abbrev b_Forge_trees : ByteArray := prog_1_method_7_code
def y_Forge_trees : MethodName := ⟨"TreeCoverForge", "trees", "()I"⟩
abbrev rm_Forge_trees : Room := { frames := 0, cells := 0, slots := 0, locals := 0 }
abbrev b_Forge_nodes : ByteArray := prog_1_method_8_code
def y_Forge_nodes : MethodName := ⟨"TreeCoverForge", "nodes", "()I"⟩
abbrev rm_Forge_nodes : Room := { frames := 1, cells := 0, slots := 0, locals := 20 }
abbrev b_Forge_relative : ByteArray := prog_1_method_9_code
def y_Forge_relative : MethodName := ⟨"TreeCoverForge", "relative", "(II)I"⟩
abbrev rm_Forge_relative : Room := { frames := 4, cells := 0, slots := 0, locals := 110 }
abbrev b_Forge_isTopNode : ByteArray := prog_1_method_20_code
def y_Forge_isTopNode : MethodName := ⟨"TreeCoverForge", "isTopNode", "(I)Z"⟩
abbrev rm_Forge_isTopNode : Room := { frames := 1, cells := 0, slots := 0, locals := 20 }
abbrev b_Pile_labelOf : ByteArray := prog_4_method_8_code
def y_Pile_labelOf : MethodName := ⟨"TreeCoverForge$Pile", "labelOf", "(LTreeCoverForge$RuleBook;I)LTreeCoverForge$Label;"⟩
abbrev rm_Pile_labelOf : Room := { frames := 3, cells := 0, slots := 0, locals := 84 }
abbrev b_Pile_topStart : ByteArray := prog_4_method_3_code
def y_Pile_topStart : MethodName := ⟨"TreeCoverForge$Pile", "topStart", "()I"⟩
abbrev rm_Pile_topStart : Room := { frames := 1, cells := 0, slots := 0, locals := 20 }
abbrev b_Forge_choice : ByteArray := prog_1_method_10_code
def y_Forge_choice : MethodName := ⟨"TreeCoverForge", "choice", "(II)I"⟩
abbrev rm_Forge_choice : Room := { frames := 4, cells := 0, slots := 0, locals := 110 }
abbrev b_Forge_cost : ByteArray := prog_1_method_11_code
def y_Forge_cost : MethodName := ⟨"TreeCoverForge", "cost", "(I)I"⟩
abbrev rm_Forge_cost : Room := { frames := 4, cells := 0, slots := 0, locals := 110 }
abbrev b_Forge_registers : ByteArray := prog_1_method_12_code
def y_Forge_registers : MethodName := ⟨"TreeCoverForge", "registers", "(I)Z"⟩
abbrev rm_Forge_registers : Room := { frames := 0, cells := 0, slots := 0, locals := 0 }
abbrev b_Forge_cover : ByteArray := prog_1_method_13_code
def y_Forge_cover : MethodName := ⟨"TreeCoverForge", "cover", "()I"⟩
abbrev rm_Forge_cover : Room := { frames := 4, cells := 0, slots := 0, locals := 110 }
abbrev b_Code_write : ByteArray := prog_2_method_2_code
def y_Code_write : MethodName := ⟨"TreeCoverForge$Code", "write", "(LTreeCoverForge$RuleBook;LTreeCoverForge$Pile;)V"⟩
abbrev rm_Code_write : Room := { frames := 3, cells := 0, slots := 0, locals := 66 }
abbrev b_Code_chooseKinds : ByteArray := prog_2_method_3_code
def y_Code_chooseKinds : MethodName := ⟨"TreeCoverForge$Code", "chooseKinds", "(LTreeCoverForge$RuleBook;LTreeCoverForge$Pile;)V"⟩
abbrev rm_Code_chooseKinds : Room := { frames := 2, cells := 0, slots := 0, locals := 40 }
abbrev b_Code_followChoices : ByteArray := prog_2_method_4_code
def y_Code_followChoices : MethodName := ⟨"TreeCoverForge$Code", "followChoices", "(LTreeCoverForge$RuleBook;LTreeCoverForge$Pile;I)I"⟩
abbrev rm_Code_followChoices : Room := { frames := 0, cells := 0, slots := 0, locals := 0 }
abbrev b_Code_writeOperator : ByteArray := prog_2_method_5_code
def y_Code_writeOperator : MethodName := ⟨"TreeCoverForge$Code", "writeOperator", "(LTreeCoverForge$Pile;II)V"⟩
abbrev rm_Code_writeOperator : Room := { frames := 2, cells := 0, slots := 0, locals := 40 }
abbrev b_Code_append : ByteArray := prog_2_method_6_code
def y_Code_append : MethodName := ⟨"TreeCoverForge$Code", "append", "(IIIIII)V"⟩
abbrev rm_Code_append : Room := { frames := 0, cells := 0, slots := 0, locals := 0 }
abbrev b_Code_givePlaces : ByteArray := prog_2_method_7_code
def y_Code_givePlaces : MethodName := ⟨"TreeCoverForge$Code", "givePlaces", "(I)V"⟩
abbrev rm_Code_givePlaces : Room := { frames := 2, cells := 0, slots := 0, locals := 46 }
abbrev b_Code_releaseUntil : ByteArray := prog_2_method_8_code
def y_Code_releaseUntil : MethodName := ⟨"TreeCoverForge$Code", "releaseUntil", "(II)V"⟩
abbrev rm_Code_releaseUntil : Room := { frames := 0, cells := 0, slots := 0, locals := 0 }
abbrev b_Code_leastFree : ByteArray := prog_2_method_9_code
def y_Code_leastFree : MethodName := ⟨"TreeCoverForge$Code", "leastFree", "(I)I"⟩
abbrev rm_Code_leastFree : Room := { frames := 0, cells := 0, slots := 0, locals := 0 }
abbrev b_Code_spillFor : ByteArray := prog_2_method_10_code
def y_Code_spillFor : MethodName := ⟨"TreeCoverForge$Code", "spillFor", "(II)V"⟩
abbrev rm_Code_spillFor : Room := { frames := 1, cells := 0, slots := 0, locals := 22 }
abbrev b_Code_isNeededLonger : ByteArray := prog_2_method_11_code
def y_Code_isNeededLonger : MethodName := ⟨"TreeCoverForge$Code", "isNeededLonger", "(II)Z"⟩
abbrev rm_Code_isNeededLonger : Room := { frames := 0, cells := 0, slots := 0, locals := 0 }
abbrev b_Forge_instruction : ByteArray := prog_1_method_14_code
def y_Forge_instruction : MethodName := ⟨"TreeCoverForge", "instruction", "(II)I"⟩
abbrev rm_Forge_instruction : Room := { frames := 2, cells := 0, slots := 0, locals := 43 }
abbrev b_Code_tell : ByteArray := prog_2_method_12_code
def y_Code_tell : MethodName := ⟨"TreeCoverForge$Code", "tell", "(II)I"⟩
abbrev rm_Code_tell : Room := { frames := 1, cells := 0, slots := 0, locals := 21 }
abbrev b_Code_placeOf : ByteArray := prog_2_method_13_code
def y_Code_placeOf : MethodName := ⟨"TreeCoverForge$Code", "placeOf", "(I)I"⟩
abbrev rm_Code_placeOf : Room := { frames := 0, cells := 0, slots := 0, locals := 0 }
abbrev b_Forge_slots : ByteArray := prog_1_method_15_code
def y_Forge_slots : MethodName := ⟨"TreeCoverForge", "slots", "()I"⟩
abbrev rm_Forge_slots : Room := { frames := 0, cells := 0, slots := 0, locals := 0 }
abbrev b_Forge_set : ByteArray := prog_1_method_16_code
def y_Forge_set : MethodName := ⟨"TreeCoverForge", "set", "(II)Z"⟩
abbrev rm_Forge_set : Room := { frames := 1, cells := 0, slots := 0, locals := 20 }
abbrev b_Forge_run : ByteArray := prog_1_method_17_code
def y_Forge_run : MethodName := ⟨"TreeCoverForge", "run", "()I"⟩
abbrev rm_Forge_run : Room := { frames := 2, cells := 0, slots := 0, locals := 48 }
abbrev b_Code_execute : ByteArray := prog_2_method_14_code
def y_Code_execute : MethodName := ⟨"TreeCoverForge$Code", "execute", "([I)I"⟩
abbrev rm_Code_execute : Room := { frames := 1, cells := 0, slots := 0, locals := 24 }
abbrev b_Forge_resultOf : ByteArray := prog_1_method_26_code
def y_Forge_resultOf : MethodName := ⟨"TreeCoverForge", "resultOf", "(IIII[I)I"⟩
abbrev rm_Forge_resultOf : Room := { frames := 0, cells := 0, slots := 0, locals := 0 }
abbrev b_Forge_value : ByteArray := prog_1_method_18_code
def y_Forge_value : MethodName := ⟨"TreeCoverForge", "value", "()I"⟩
abbrev rm_Forge_value : Room := { frames := 3, cells := 0, slots := 0, locals := 65 }
abbrev b_Pile_evaluateTop : ByteArray := prog_4_method_9_code
def y_Pile_evaluateTop : MethodName := ⟨"TreeCoverForge$Pile", "evaluateTop", "([I)I"⟩
abbrev rm_Pile_evaluateTop : Room := { frames := 2, cells := 0, slots := 0, locals := 40 }
abbrev b_Model_init : ByteArray := prog_8_method_1_code
def y_Model_init : MethodName := ⟨"TreeCoverForgeModel", "<init>", "()V"⟩
abbrev rm_Model_init : Room := { frames := 1, cells := 0, slots := 0, locals := 20 }
abbrev b_Model_rule : ByteArray := prog_8_method_4_code
def y_Model_rule : MethodName := ⟨"TreeCoverForgeModel", "rule", "(IIIII)I"⟩
abbrev rm_Model_rule : Room := { frames := 1, cells := 0, slots := 0, locals := 21 }
abbrev b_Model_outside : ByteArray := prog_8_method_3_code
def y_Model_outside : MethodName := ⟨"TreeCoverForgeModel", "outside", "(II)Z"⟩
abbrev rm_Model_outside : Room := { frames := 0, cells := 0, slots := 0, locals := 0 }
abbrev b_Model_clear : ByteArray := prog_8_method_5_code
def y_Model_clear : MethodName := ⟨"TreeCoverForgeModel", "clear", "()V"⟩
abbrev rm_Model_clear : Room := { frames := 0, cells := 0, slots := 0, locals := 0 }
abbrev b_Model_states : ByteArray := prog_8_method_13_code
def y_Model_states : MethodName := ⟨"TreeCoverForgeModel", "states", "()I"⟩
abbrev rm_Model_states : Room := { frames := 4, cells := 0, slots := 0, locals := 94 }
abbrev b_Model_combine : ByteArray := prog_8_method_7_code
def y_Model_combine : MethodName := ⟨"TreeCoverForgeModel", "combine", "(I)V"⟩
abbrev rm_Model_combine : Room := { frames := 2, cells := 0, slots := 0, locals := 45 }
abbrev b_Model_through : ByteArray := prog_8_method_6_code
def y_Model_through : MethodName := ⟨"TreeCoverForgeModel", "through", "(II)J"⟩
abbrev rm_Model_through : Room := { frames := 1, cells := 0, slots := 0, locals := 20 }
abbrev b_Model_kids : ByteArray := prog_8_method_2_code
def y_Model_kids : MethodName := ⟨"TreeCoverForgeModel", "kids", "(I)I"⟩
abbrev rm_Model_kids : Room := { frames := 0, cells := 0, slots := 0, locals := 0 }
abbrev b_Model_known : ByteArray := prog_8_method_11_code
def y_Model_known : MethodName := ⟨"TreeCoverForgeModel", "known", "()Z"⟩
abbrev rm_Model_known : Room := { frames := 1, cells := 0, slots := 0, locals := 23 }
abbrev b_Model_lowest : ByteArray := prog_8_method_10_code
def y_Model_lowest : MethodName := ⟨"TreeCoverForgeModel", "lowest", "()J"⟩
abbrev rm_Model_lowest : Room := { frames := 0, cells := 0, slots := 0, locals := 0 }
abbrev b_Model_reach : ByteArray := prog_8_method_12_code
def y_Model_reach : MethodName := ⟨"TreeCoverForgeModel", "reach", "(III)Z"⟩
abbrev rm_Model_reach : Room := { frames := 3, cells := 0, slots := 0, locals := 70 }
abbrev b_Model_push : ByteArray := prog_8_method_14_code
def y_Model_push : MethodName := ⟨"TreeCoverForgeModel", "push", "(II)I"⟩
abbrev rm_Model_push : Room := { frames := 1, cells := 0, slots := 0, locals := 21 }
abbrev b_Model_pop : ByteArray := prog_8_method_15_code
def y_Model_pop : MethodName := ⟨"TreeCoverForgeModel", "pop", "()Z"⟩
abbrev rm_Model_pop : Room := { frames := 0, cells := 0, slots := 0, locals := 0 }
abbrev b_Model_trees : ByteArray := prog_8_method_16_code
def y_Model_trees : MethodName := ⟨"TreeCoverForgeModel", "trees", "()I"⟩
abbrev rm_Model_trees : Room := { frames := 0, cells := 0, slots := 0, locals := 0 }
abbrev b_Model_nodes : ByteArray := prog_8_method_17_code
def y_Model_nodes : MethodName := ⟨"TreeCoverForgeModel", "nodes", "()I"⟩
abbrev rm_Model_nodes : Room := { frames := 0, cells := 0, slots := 0, locals := 0 }
abbrev b_Model_relative : ByteArray := prog_8_method_19_code
def y_Model_relative : MethodName := ⟨"TreeCoverForgeModel", "relative", "(II)I"⟩
abbrev rm_Model_relative : Room := { frames := 5, cells := 0, slots := 0, locals := 114 }
abbrev b_Model_noNode : ByteArray := prog_8_method_18_code
def y_Model_noNode : MethodName := ⟨"TreeCoverForgeModel", "noNode", "(II)Z"⟩
abbrev rm_Model_noNode : Room := { frames := 4, cells := 0, slots := 0, locals := 92 }
abbrev b_Model_work : ByteArray := prog_8_method_9_code
def y_Model_work : MethodName := ⟨"TreeCoverForgeModel", "work", "()Z"⟩
abbrev rm_Model_work : Room := { frames := 3, cells := 0, slots := 0, locals := 70 }
abbrev b_Model_takeKids : ByteArray := prog_8_method_8_code
def y_Model_takeKids : MethodName := ⟨"TreeCoverForgeModel", "takeKids", "(I)V"⟩
abbrev rm_Model_takeKids : Room := { frames := 1, cells := 0, slots := 0, locals := 20 }
abbrev b_Model_choice : ByteArray := prog_8_method_20_code
def y_Model_choice : MethodName := ⟨"TreeCoverForgeModel", "choice", "(II)I"⟩
abbrev rm_Model_choice : Room := { frames := 5, cells := 0, slots := 0, locals := 114 }
abbrev b_Model_cost : ByteArray := prog_8_method_21_code
def y_Model_cost : MethodName := ⟨"TreeCoverForgeModel", "cost", "(I)I"⟩
abbrev rm_Model_cost : Room := { frames := 4, cells := 0, slots := 0, locals := 92 }
abbrev b_Model_registers : ByteArray := prog_8_method_22_code
def y_Model_registers : MethodName := ⟨"TreeCoverForgeModel", "registers", "(I)Z"⟩
abbrev rm_Model_registers : Room := { frames := 0, cells := 0, slots := 0, locals := 0 }
abbrev b_Model_cover : ByteArray := prog_8_method_28_code
def y_Model_cover : MethodName := ⟨"TreeCoverForgeModel", "cover", "()I"⟩
abbrev rm_Model_cover : Room := { frames := 4, cells := 0, slots := 0, locals := 92 }
abbrev b_Model_want : ByteArray := prog_8_method_24_code
def y_Model_want : MethodName := ⟨"TreeCoverForgeModel", "want", "(I)V"⟩
abbrev rm_Model_want : Room := { frames := 1, cells := 0, slots := 0, locals := 20 }
abbrev b_Model_emit : ByteArray := prog_8_method_25_code
def y_Model_emit : MethodName := ⟨"TreeCoverForgeModel", "emit", "(II)V"⟩
abbrev rm_Model_emit : Room := { frames := 1, cells := 0, slots := 0, locals := 25 }
abbrev b_Model_write : ByteArray := prog_8_method_23_code
def y_Model_write : MethodName := ⟨"TreeCoverForgeModel", "write", "(IIIII)V"⟩
abbrev rm_Model_write : Room := { frames := 0, cells := 0, slots := 0, locals := 0 }
abbrev b_Model_settle : ByteArray := prog_8_method_27_code
def y_Model_settle : MethodName := ⟨"TreeCoverForgeModel", "settle", "(I)V"⟩
abbrev rm_Model_settle : Room := { frames := 1, cells := 0, slots := 0, locals := 22 }
abbrev b_Model_holds : ByteArray := prog_8_method_26_code
def y_Model_holds : MethodName := ⟨"TreeCoverForgeModel", "holds", "(II)Z"⟩
abbrev rm_Model_holds : Room := { frames := 0, cells := 0, slots := 0, locals := 0 }
abbrev b_Model_instruction : ByteArray := prog_8_method_29_code
def y_Model_instruction : MethodName := ⟨"TreeCoverForgeModel", "instruction", "(II)I"⟩
abbrev rm_Model_instruction : Room := { frames := 1, cells := 0, slots := 0, locals := 21 }
abbrev b_Model_slots : ByteArray := prog_8_method_30_code
def y_Model_slots : MethodName := ⟨"TreeCoverForgeModel", "slots", "()I"⟩
abbrev rm_Model_slots : Room := { frames := 0, cells := 0, slots := 0, locals := 0 }
abbrev b_Model_set : ByteArray := prog_8_method_31_code
def y_Model_set : MethodName := ⟨"TreeCoverForgeModel", "set", "(II)Z"⟩
abbrev rm_Model_set : Room := { frames := 1, cells := 0, slots := 0, locals := 21 }
abbrev b_Model_run : ByteArray := prog_8_method_33_code
def y_Model_run : MethodName := ⟨"TreeCoverForgeModel", "run", "()I"⟩
abbrev rm_Model_run : Room := { frames := 1, cells := 0, slots := 0, locals := 24 }
abbrev b_Model_calculate : ByteArray := prog_8_method_32_code
def y_Model_calculate : MethodName := ⟨"TreeCoverForgeModel", "calculate", "(IIII)I"⟩
abbrev rm_Model_calculate : Room := { frames := 0, cells := 0, slots := 0, locals := 0 }
abbrev b_Model_value : ByteArray := prog_8_method_34_code
def y_Model_value : MethodName := ⟨"TreeCoverForgeModel", "value", "()I"⟩
abbrev rm_Model_value : Room := { frames := 1, cells := 0, slots := 0, locals := 24 }
abbrev b_Law_law : ByteArray := code
def y_Law_law : MethodName := ⟨"TreeCoverForgeLaw", "law", "([I)Z"⟩
end
section
/-! The world as a function: every cell has a number c, an address ad c, and ints and longs S.1 c, S.2 c; what it looks like is its layout y c. No call after the constructors makes a cell, so a method turns S into another S and leaves the rest. -/
abbrev zz_S : Type := (Nat → Nat → Int32) × (Nat → Nat → Int64)
abbrev zz_Y : Type := Nat → (Nat → Int32) → (Nat → Int64) → va_E
def zz_u (S : zz_S) (c k : Nat) (v : Int32) : zz_S := (va_up S.1 c (upd (S.1 c) k v), S.2)
def zz_v (S : zz_S) (c k : Nat) (v : Int64) : zz_S := (S.1, va_up S.2 c (vp_updL (S.2 c) k v))
def zz_w (n : Nat) (ad : Nat → Nat) (y : zz_Y) (S : zz_S) : va_W := (List.range n).map (fun c => (ad c, y c (S.1 c) (S.2 c)))
theorem zz_w_at {n : Nat} {ad : Nat → Nat} {y : zz_Y} {S : zz_S} {c : Nat} (h : c < n) : (zz_w n ad y S)[c]? = some (ad c, y c (S.1 c) (S.2 c)) := by
  simp [zz_w, h]
theorem zz_w_none {n : Nat} {ad : Nat → Nat} {y : zz_Y} {S : zz_S} {c : Nat} (h : ¬ c < n) : (zz_w n ad y S)[c]? = none := by
  apply List.getElem?_eq_none
  simp only [zz_w, List.length_map, List.length_range]
  omega
theorem zz_w_inv {n : Nat} {ad : Nat → Nat} {y : zz_Y} {S : zz_S} {k : Nat} {q : Nat × va_E} (h : (zz_w n ad y S)[k]? = some q) : k < n ∧ q = (ad k, y k (S.1 k) (S.2 k)) := by
  by_cases hk : k < n
  · rw [zz_w_at hk] at h
    exact ⟨hk, (Option.some.inj h).symm⟩
  · rw [zz_w_none hk] at h
    cases h
theorem zz_w_set {n : Nat} {ad : Nat → Nat} {y : zz_Y} {S S' : zz_S} {c : Nat} {e : va_E} (h : c < n) (h1 : ∀ d, d ≠ c → S'.1 d = S.1 d) (h2 : ∀ d, d ≠ c → S'.2 d = S.2 d) (he : y c (S'.1 c) (S'.2 c) = e) : (zz_w n ad y S).set c (ad c, e) = zz_w n ad y S' := by
  apply List.ext_getElem?
  intro k
  have hlen : (zz_w n ad y S).length = n := by simp only [zz_w, List.length_map, List.length_range]
  by_cases hk : k < n
  · by_cases hc : c = k
    · subst hc
      rw [zz_w_at h, List.getElem?_set_self (by omega), he]
    · rw [List.getElem?_set_ne hc, zz_w_at hk, zz_w_at hk, h1 k (fun x => hc x.symm), h2 k (fun x => hc x.symm)]
  · rw [zz_w_none hk, List.getElem?_eq_none (by rw [List.length_set]; omega)]
theorem zz_u1 (S : zz_S) (c k : Nat) (v : Int32) (d : Nat) (h : d ≠ c) : (zz_u S c k v).1 d = S.1 d := by
  show va_up S.1 c _ d = S.1 d
  rw [va_up, if_neg h]
theorem zz_u1s (S : zz_S) (c k : Nat) (v : Int32) : (zz_u S c k v).1 c = upd (S.1 c) k v := by
  show va_up S.1 c _ c = _
  rw [va_up, if_pos rfl]
theorem zz_v2 (S : zz_S) (c k : Nat) (v : Int64) (d : Nat) (h : d ≠ c) : (zz_v S c k v).2 d = S.2 d := by
  show va_up S.2 c _ d = S.2 d
  rw [va_up, if_neg h]
theorem zz_v2s (S : zz_S) (c k : Nat) (v : Int64) : (zz_v S c k v).2 c = vp_updL (S.2 c) k v := by
  show va_up S.2 c _ c = _
  rw [va_up, if_pos rfl]
/-- what the tables and the cells of one side are: classes, array classes, how many cells, where, of which layout; and where the class's table of arities is -/
abbrev zz_G : Type := va_G × List vw_C × List (ClassId × FieldType) × Nat × (Nat → Nat) × zz_Y × Nat
abbrev zz_D (G : zz_G) : va_G := G.1
abbrev zz_cl (G : zz_G) : List vw_C := G.2.1
abbrev zz_ty (G : zz_G) : List (ClassId × FieldType) := G.2.2.1
abbrev zz_n (G : zz_G) : Nat := G.2.2.2.1
abbrev zz_ad (G : zz_G) : Nat → Nat := G.2.2.2.2.1
abbrev zz_y (G : zz_G) : zz_Y := G.2.2.2.2.2.1
abbrev zz_t (G : zz_G) : Nat := G.2.2.2.2.2.2
def zz_W (G : zz_G) (S : zz_S) : va_W := zz_w (zz_n G) (zz_ad G) (zz_y G) S
def zz_A (G : zz_G) : Nat → Prop := fun q => ∃ c, c < zz_n G ∧ q = zz_ad G c
def zz_kd (k : Nat) : Nat := if k < 3 then 0 else if k < 5 then 1 else 2
def zz_ar : Nat → Value := fun j => .int (nI (zz_kd j))
def zz_N (U : State) : Prop := ∀ w, w ∈ lw_tbl → zz_isN w = true → va_Nw w U
theorem zz_N.warm {s U : State} (hW : s.WarmedH U.vm) (h : zz_N s) : zz_N U := fun w hw hn => by
  have h1 := h w hw hn
  cases w <;> first | (exact va_Nw.warmM hW h1) | (exact va_Nw.warmF hW h1) | (cases hn)
theorem zz_N.same {s U : State} (hv : s.vm = U.vm) (h : zz_N s) : zz_N U := fun w hw hn => by
  have h1 := h w hw hn
  cases w <;> first | (cases hn; done) | (exact va_Nw.same rfl hv h1)
def zz_K (G : zz_G) (U : State) (H : Heap) : Prop := va_K (zz_D G) (zz_cl G) (zz_ty G) U ∧ va_Z "TreeCoverForge" "ARITIES" "[I" (.ref (zz_t G)) (zz_A G) U H ∧ va_T .int (zz_t G) 8 zz_ar (zz_A G) U H ∧ zz_N U
def zz_P (G : zz_G) (S : zz_S) (U : State) : Prop := va_P (zz_D G) (zz_cl G) (zz_W G S) U.heap ∧ va_D (zz_A G) (zz_W G S) ∧ zz_K G U U.heap
def zz_Z (G : zz_G) (S : zz_S) (H0 H : Heap) (locs : List Loc) : Prop := va_P (zz_D G) (zz_cl G) (zz_W G S) H ∧ va_D (zz_A G) (zz_W G S) ∧ va_S (zz_A G) H0 H locs
def zz_Pc (args : List Value) (G : zz_G) (S : zz_S) : Array Value → State → Prop := va_Pc args (zz_P G S)
theorem zz_K.warm {G : zz_G} {u U : State} {H : Heap} (hW : u.WarmedH U.vm) (h : zz_K G u H) : zz_K G U H := ⟨va_K.moved hW.alike h.1, va_Z.moved hW.alike h.2.1, va_T.moved hW.alike h.2.2.1, zz_N.warm hW h.2.2.2⟩
theorem zz_K.same {G : zz_G} {u U : State} {H : Heap} (hv : u.vm = U.vm) (hvm : u.vm.Alike U.vm) (h : zz_K G u H) : zz_K G U H := ⟨va_K.moved hvm h.1, va_Z.moved hvm h.2.1, va_T.moved hvm h.2.2.1, zz_N.same hv h.2.2.2⟩
theorem zz_K.kept {G : zz_G} {U : State} {H H1 : Heap} (h : zz_K G U H) (hq : ∀ a : Nat, a < H.size → ¬ zz_A G a → H1[a]? = H[a]?) : zz_K G U H1 := ⟨h.1, va_Z.kept h.2.1 hq, va_T.kept h.2.2.1 hq, h.2.2.2⟩
theorem zz_W_at {G : zz_G} {S : zz_S} {c : Nat} (h : c < zz_n G) {e : va_E} (he : zz_y G c (S.1 c) (S.2 c) = e) : (zz_W G S)[c]? = some (zz_ad G c, e) := by
  rw [← he]
  exact zz_w_at h
/-- a method's fixed facts: the machine, its code, its class, the tables' words -/
def zz_C (p : Program) (s : State) (m : MethodId) (args : Array Value) (meth : Method) (c : Code) (cc : ByteArray) (maxL : Nat) (ret : Option FieldType) (own : String) : Prop :=
  p.tables.exec = Jvm.exec ∧ c.code = cc ∧ c.maxLocals = maxL ∧ s.vm.findClass own = some m.cls ∧ (∀ w ∈ zz_tbl, w.before args s = true) ∧ meth.sig.returnType = ret ∧ meth.locks = false
theorem zz_met {l : Launch} {y : MethodName} {cc : ByteArray} {maxL : Nat} {ret : Option FieldType} {rm : Room} {args : List Value} {G : zz_G} {S : zz_S} {Qc : Array Value → State → Outcome → State → Prop} (hy : plainName y.cls = true) (hlen : (lg_sl args).length ≤ maxL)
    (body : ∀ (p : Program) (e : Env) (s : State) (m : MethodId) (below : List Frame) (meth : Method) (c : Code) (ls : Array Slot), zz_C p s m args.toArray meth c cc maxL ret y.cls → zz_K G s s.heap → zz_Z G S s.heap s.heap [] → lv_has ls maxL (lv_args 0 args) → W p l e rm s m args.toArray below meth c s.heap [] 0 0 (MQ below Qc args.toArray s 0 0 (zz_A G)) (F0 m 0 ls [])) :
    Met l y (Cond.code y cc maxL ret :: zz_tbl) rm (zz_Pc args G S) Qc 0 0 (zz_A G) := by
  refine Met.ofW (cc := cc) (maxL := maxL) (ret := ret) hy rfl ?_
  intro p e s m args' below meth c s₁ B hml hv
  obtain ⟨rfl, hP, hD, hK⟩ := hv
  have hts := atoms_spec (ws := Cond.code y cc maxL ret :: zz_tbl) B.pre
  rw [lg_entry_eq]
  exact body p e s m below meth c _ ⟨B.exec, B.bytes, hml, findClass_of_methodNamed B.named, fun w hw => hts w (List.mem_cons_of_mem _ hw), B.returns, B.notSynchronized⟩ hK ⟨hP, hD, va_S.rf⟩ (lv_entry args hlen)
theorem zz_blind {args : List Value} {G : zz_G} {S : zz_S} : FrameBlind (zz_Pc args G S) := fun a U g mk q => by
  obtain ⟨q0, qP, qD, qK⟩ := q
  exact ⟨q0, qP, qD, zz_K.same (u := U) (U := U.calling g mk a) rfl (Vm.Alike.refl U.vm) qK⟩
theorem zz_here {G : zz_G} {S : zz_S} {s U : State} {H : Heap} {locs : List Loc} (hK : zz_K G s s.heap) (hZ : zz_Z G S s.heap H locs) (hU : U.heap = H) (hvm : s.WarmedH U.vm) : zz_P G S U := by
  refine ⟨by rw [hU]; exact hZ.1, hZ.2.1, ?_⟩
  refine zz_K.warm hvm (zz_K.kept hK ?_)
  rw [hU]
  exact hZ.2.2.2.1
section ZR
variable {p : Program} {l : Launch} {e : Env} {R : Room} {s : State} {m : MethodId} {args : Array Value} {below : List Frame} {meth : Method} {c : Code} {H : Heap} {locs : List Loc} {cells slots : Nat} {Q : State → Prop}
variable {cc : ByteArray} {maxL : Nat} {ret : Option FieldType} {own : String} {pc : Nat} {ls : Array Slot} {rest : List Value} {G : zz_G} {S : zz_S}
/-- the ends -/
theorem zz_iret {post : Int32 → zz_S → Prop} {v : Int32} (hC : zz_C p s m args meth c cc maxL ret own) (hK : zz_K G s s.heap) (hZ : zz_Z G S s.heap H locs) (hret : ret = some .int) (hdg : decode cc pc = .ok (.ireturn, 1)) (hp : post v S) : W p l e R s m args below meth c H locs 0 0 (MQ below (va_Qi post (zz_P G) (zz_A G)) args s 0 0 (zz_A G)) (F0 m pc ls [.int v]) :=
  W.iret hC.1 hC.2.1 (hC.2.2.2.2.2.1.trans hret) (fun t ht hW => ⟨⟨v, S, rfl, hp, zz_here hK hZ ht hW⟩, hZ.2.2.F ht⟩) hZ.2.2.2.2 hdg hC.2.2.2.2.2.2
theorem zz_zret {post : Int32 → zz_S → Prop} {v : Int32} (hC : zz_C p s m args meth c cc maxL ret own) (hK : zz_K G s s.heap) (hZ : zz_Z G S s.heap H locs) (hret : ret = some .boolean) (hdg : decode cc pc = .ok (.ireturn, 1)) (hn : narrow .boolean (.int v) = .int v) (hp : post v S) : W p l e R s m args below meth c H locs 0 0 (MQ below (va_Qi post (zz_P G) (zz_A G)) args s 0 0 (zz_A G)) (F0 m pc ls [.int v]) :=
  W.zret hC.1 hC.2.1 (hC.2.2.2.2.2.1.trans hret) hn (fun t ht hW => ⟨⟨v, S, rfl, hp, zz_here hK hZ ht hW⟩, hZ.2.2.F ht⟩) hZ.2.2.2.2 hdg hC.2.2.2.2.2.2
theorem zz_lret {post : Int64 → zz_S → Prop} {v : Int64} (hC : zz_C p s m args meth c cc maxL ret own) (hK : zz_K G s s.heap) (hZ : zz_Z G S s.heap H locs) (hret : ret = some .long) (hdg : decode cc pc = .ok (.lreturn, 1)) (hp : post v S) : W p l e R s m args below meth c H locs 0 0 (MQ below (va_Ql post (zz_P G) (zz_A G)) args s 0 0 (zz_A G)) (F0 m pc ls [.long v]) :=
  W.lret hC.1 hC.2.1 (hC.2.2.2.2.2.1.trans hret) (fun t ht hW => ⟨⟨v, S, rfl, hp, zz_here hK hZ ht hW⟩, hZ.2.2.F ht⟩) hZ.2.2.2.2 hdg hC.2.2.2.2.2.2
theorem zz_vret {post : zz_S → Prop} (hC : zz_C p s m args meth c cc maxL ret own) (hK : zz_K G s s.heap) (hZ : zz_Z G S s.heap H locs) (hret : ret = none) (hdg : decode cc pc = .ok (.return_, 1)) (hp : post S) : W p l e R s m args below meth c H locs 0 0 (MQ below (va_Qv post (zz_P G) (zz_A G)) args s 0 0 (zz_A G)) (F0 m pc ls []) :=
  W.vret hC.1 hC.2.1 (hC.2.2.2.2.2.1.trans hret) (fun t ht hW => ⟨⟨S, rfl, hp, zz_here hK hZ ht hW⟩, hZ.2.2.F ht⟩) hZ.2.2.2.2 hdg hC.2.2.2.2.2.2
/-- a reference to the cell number q is answered -/
theorem zz_aret {post : Nat → zz_S → Prop} {q : Nat} {C : String} (hC : zz_C p s m args meth c cc maxL ret own) (hK : zz_K G s s.heap) (hZ : zz_Z G S s.heap H locs) (hret : ret = some (.object C)) (hdg : decode cc pc = .ok (.areturn, 1)) (hp : post q S) : W p l e R s m args below meth c H locs 0 0 (MQ below (va_Qr (fun u : Nat × zz_S => post u.1 u.2) (fun u a t => a = zz_ad G u.1 ∧ zz_P G u.2 t) (zz_A G)) args s 0 0 (zz_A G)) (F0 m pc ls [.ref (zz_ad G q)]) :=
  W.aret hC.1 hC.2.1 (hC.2.2.2.2.2.1.trans hret) (Or.inl ⟨C, rfl⟩) (Or.inr ⟨_, rfl⟩) (fun t ht hW => ⟨⟨(q, S), zz_ad G q, rfl, hp, rfl, zz_here hK hZ ht hW⟩, hZ.2.2.F ht⟩) hZ.2.2.2.2 hdg hC.2.2.2.2.2.2
/-- fields -/
theorem zz_get {ref C : String} {T : u_T} {N ci index : Nat} (hC : zz_C p s m args meth c cc maxL ret own) (hK : zz_K G s s.heap) (hZ : zz_Z G S s.heap H locs) (c0 k : Nat) {fs : List Value} (hc0 : c0 < zz_n G) (he : zz_y G c0 (S.1 c0) (S.2 c0) = .inr (ci, fs)) (hc : (zz_cl G)[ci]? = some (C, T, N)) (hin : ∀ w ∈ u_ws C T N, w ∈ zz_tbl) (hk : k < N) (hlink : Cond.fieldLink own index ref (T k).2.1 (T k).2.2.1 ∈ zz_tbl) (hT : (T k).1 = ref) {v : Value} (hv : fs[k]? = some v) (hdg : decode cc pc = .ok (.getfield index, 3)) (kk : W p l e R s m args below meth c H locs cells slots Q (F0 m (pc + 3) ls (v :: rest))) : W p l e R s m args below meth c H locs cells slots Q (F0 m pc ls (.ref (zz_ad G c0) :: rest)) :=
  va_get (D := zz_D G) hC.1 hC.2.1 hC.2.2.2.2.1 hin hC.2.2.2.1 hK.1 hZ.1 c0 (zz_W_at hc0 he) hc k hk (hC.2.2.2.2.1 _ hlink) (fun x h => by rw [← hT]; exact h) hv hdg kk
theorem zz_put {ref C : String} {T : u_T} {N ci index : Nat} (hC : zz_C p s m args meth c cc maxL ret own) (hK : zz_K G s s.heap) (hZ : zz_Z G S s.heap H locs) (c0 k : Nat) {fs : List Value} (hc0 : c0 < zz_n G) (he : zz_y G c0 (S.1 c0) (S.2 c0) = .inr (ci, fs)) (hc : (zz_cl G)[ci]? = some (C, T, N)) (hin : ∀ w ∈ u_ws C T N, w ∈ zz_tbl) (ty0 : Nat → FieldType) (hty : ∀ k, k < N → parseFieldDescriptor (T k).2.2.1 = some (ty0 k)) (hnm : ∀ a, a < N → ∀ b, b < N → a ≠ b → (T a).2.1 ≠ (T b).2.1) (hk : k < N) (hlink : Cond.fieldLink own index ref (T k).2.1 (T k).2.2.1 ∈ zz_tbl) (hT : (T k).1 = ref) (hfin : (T k).2.2.2 = false) {v : Int32} (hd : parseFieldDescriptor (T k).2.2.1 = some .int) (hl : k < fs.length) (he' : zz_y G c0 (upd (S.1 c0) k v) (S.2 c0) = .inr (ci, fs.set k (.int v))) (hdg : decode cc pc = .ok (.putfield index, 3)) (kk : ∀ (H1 : Heap) (locs1 : List Loc), zz_Z G (zz_u S c0 k v) s.heap H1 locs1 → W p l e R s m args below meth c H1 locs1 cells slots Q (F0 m (pc + 3) ls rest)) : W p l e R s m args below meth c H locs cells slots Q (F0 m pc ls (.int v :: .ref (zz_ad G c0) :: rest)) := by
  refine va_put (D := zz_D G) hC.1 hC.2.1 hC.2.2.2.2.1 hin ty0 hty hnm hC.2.2.2.1 hK.1 hZ.1 hZ.2.1 hZ.2.2 c0 (zz_W_at hc0 he) hc k hk (hC.2.2.2.2.1 _ hlink) (fun x h => by rw [← hT]; exact h) hfin hd rfl rfl hl hdg (fun H1 locs1 h1 h2 h3 => ?_)
  have hw : (zz_W G S).set c0 (zz_ad G c0, .inr (ci, fs.set k (.int v))) = zz_W G (zz_u S c0 k v) := zz_w_set hc0 (fun d hd => zz_u1 S c0 k v d hd) (fun d _ => rfl) (by rw [zz_u1s]; exact he')
  rw [hw] at h1 h2
  exact kk H1 locs1 ⟨h1, h2, h3⟩
/-- arrays -/
theorem zz_iald {nn : Nat} {cA : ClassId} (hC : zz_C p s m args meth c cc maxL ret own) (hK : zz_K G s s.heap) (hZ : zz_Z G S s.heap H locs) (c0 t0 k : Nat) (hc0 : c0 < zz_n G) (he : zz_y G c0 (S.1 c0) (S.2 c0) = .inl (cA, nn, .inl (S.1 c0))) (ht : (zz_ty G)[t0]? = some (cA, .int)) {i v : Int32} (hi : i = nI k) (hkn : k < nn) (hnn : nn < 2 ^ 31) (hv : S.1 c0 k = v) (hdg : decode cc pc = .ok (.iaload, 1)) (kk : W p l e R s m args below meth c H locs cells slots Q (F0 m (pc + 1) ls (.int v :: rest))) : W p l e R s m args below meth c H locs cells slots Q (F0 m pc ls (.int i :: .ref (zz_ad G c0) :: rest)) := by
  subst hi
  refine va_iald hC.1 hC.2.1 hK.1 hZ.1 c0 t0 (zz_W_at hc0 he) ht (vp_in_nI hkn hnn) hdg ?_
  rw [nI_clamp (by omega), hv]
  exact kk
theorem zz_iast {nn : Nat} {cA : ClassId} (hC : zz_C p s m args meth c cc maxL ret own) (hK : zz_K G s s.heap) (hZ : zz_Z G S s.heap H locs) (c0 t0 k : Nat) (hc0 : c0 < zz_n G) (he : ∀ f, zz_y G c0 f (S.2 c0) = .inl (cA, nn, .inl f)) (ht : (zz_ty G)[t0]? = some (cA, .int)) {i v : Int32} (hi : i = nI k) (hkn : k < nn) (hnn : nn < 2 ^ 31) (hdg : decode cc pc = .ok (.iastore, 1)) (kk : ∀ (H1 : Heap) (locs1 : List Loc), zz_Z G (zz_u S c0 k v) s.heap H1 locs1 → W p l e R s m args below meth c H1 locs1 cells slots Q (F0 m (pc + 1) ls rest)) : W p l e R s m args below meth c H locs cells slots Q (F0 m pc ls (.int v :: .int i :: .ref (zz_ad G c0) :: rest)) := by
  subst hi
  refine va_iast hC.1 hC.2.1 hK.1 hZ.1 hZ.2.1 hZ.2.2 c0 t0 (zz_W_at hc0 (he _)) ht (vp_in_nI hkn hnn) hdg (fun H1 locs1 h1 h2 h3 => ?_)
  rw [nI_clamp (by omega)] at h1 h2
  have hw : (zz_W G S).set c0 (zz_ad G c0, .inl (cA, nn, .inl (upd (S.1 c0) k v))) = zz_W G (zz_u S c0 k v) := zz_w_set hc0 (fun d hd => zz_u1 S c0 k v d hd) (fun d _ => rfl) (by rw [zz_u1s]; exact he _)
  rw [hw] at h1 h2
  exact kk H1 locs1 ⟨h1, h2, h3⟩
theorem zz_lald {nn : Nat} {cA : ClassId} (hC : zz_C p s m args meth c cc maxL ret own) (hK : zz_K G s s.heap) (hZ : zz_Z G S s.heap H locs) (c0 t0 k : Nat) (hc0 : c0 < zz_n G) (he : zz_y G c0 (S.1 c0) (S.2 c0) = .inl (cA, nn, .inr (.inl (S.2 c0)))) (ht : (zz_ty G)[t0]? = some (cA, .long)) {i : Int32} {v : Int64} (hi : i = nI k) (hkn : k < nn) (hnn : nn < 2 ^ 31) (hv : S.2 c0 k = v) (hdg : decode cc pc = .ok (.laload, 1)) (kk : W p l e R s m args below meth c H locs cells slots Q (F0 m (pc + 1) ls (.long v :: rest))) : W p l e R s m args below meth c H locs cells slots Q (F0 m pc ls (.int i :: .ref (zz_ad G c0) :: rest)) := by
  subst hi
  refine va_lald hC.1 hC.2.1 hK.1 hZ.1 c0 t0 (zz_W_at hc0 he) ht (vp_in_nI hkn hnn) hdg ?_
  rw [nI_clamp (by omega), hv]
  exact kk
theorem zz_last {nn : Nat} {cA : ClassId} (hC : zz_C p s m args meth c cc maxL ret own) (hK : zz_K G s s.heap) (hZ : zz_Z G S s.heap H locs) (c0 t0 k : Nat) (hc0 : c0 < zz_n G) (he : ∀ f, zz_y G c0 (S.1 c0) f = .inl (cA, nn, .inr (.inl f))) (ht : (zz_ty G)[t0]? = some (cA, .long)) {i : Int32} {v : Int64} (hi : i = nI k) (hkn : k < nn) (hnn : nn < 2 ^ 31) (hdg : decode cc pc = .ok (.lastore, 1)) (kk : ∀ (H1 : Heap) (locs1 : List Loc), zz_Z G (zz_v S c0 k v) s.heap H1 locs1 → W p l e R s m args below meth c H1 locs1 cells slots Q (F0 m (pc + 1) ls rest)) : W p l e R s m args below meth c H locs cells slots Q (F0 m pc ls (.long v :: .int i :: .ref (zz_ad G c0) :: rest)) := by
  subst hi
  refine va_last hC.1 hC.2.1 hK.1 hZ.1 hZ.2.1 hZ.2.2 c0 t0 (zz_W_at hc0 (he _)) ht (vp_in_nI hkn hnn) hdg (fun H1 locs1 h1 h2 h3 => ?_)
  rw [nI_clamp (by omega)] at h1 h2
  have hw : (zz_W G S).set c0 (zz_ad G c0, .inl (cA, nn, .inr (.inl (vp_updL (S.2 c0) k v)))) = zz_W G (zz_v S c0 k v) := zz_w_set hc0 (fun d _ => rfl) (fun d hd => zz_v2 S c0 k v d hd) (by rw [zz_v2s]; exact he _)
  rw [hw] at h1 h2
  exact kk H1 locs1 ⟨h1, h2, h3⟩
theorem zz_alen {x : vp_A} {cA : ClassId} {ty : FieldType} (hC : zz_C p s m args meth c cc maxL ret own) (hK : zz_K G s s.heap) (hZ : zz_Z G S s.heap H locs) (c0 t0 : Nat) (hc0 : c0 < zz_n G) (he : zz_y G c0 (S.1 c0) (S.2 c0) = .inl (cA, x)) (ht : (zz_ty G)[t0]? = some (cA, ty)) (hdg : decode cc pc = .ok (.arraylength, 1)) (kk : W p l e R s m args below meth c H locs cells slots Q (F0 m (pc + 1) ls (.int (nI x.1) :: rest))) : W p l e R s m args below meth c H locs cells slots Q (F0 m pc ls (.ref (zz_ad G c0) :: rest)) :=
  va_alen hC.1 hC.2.1 hK.1 hZ.1 c0 t0 (zz_W_at hc0 he) ht rfl hdg kk
/-- an array of references: the one at k is the cell number q -/
theorem zz_aald {nn q : Nat} {cA : ClassId} {ty : FieldType} {f : Nat → Option Nat} (hC : zz_C p s m args meth c cc maxL ret own) (hK : zz_K G s s.heap) (hZ : zz_Z G S s.heap H locs) (c0 t0 k : Nat) (hc0 : c0 < zz_n G) (he : zz_y G c0 (S.1 c0) (S.2 c0) = .inl (cA, nn, .inr (.inr (.inr (.inr f))))) (ht : (zz_ty G)[t0]? = some (cA, ty)) (hty : ty.isReference = true) {i : Int32} (hi : i = nI k) (hkn : k < nn) (hnn : nn < 2 ^ 31) (hv : f k = some (zz_ad G q)) (hdg : decode cc pc = .ok (.aaload, 1)) (kk : W p l e R s m args below meth c H locs cells slots Q (F0 m (pc + 1) ls (.ref (zz_ad G q) :: rest))) : W p l e R s m args below meth c H locs cells slots Q (F0 m pc ls (.int i :: .ref (zz_ad G c0) :: rest)) := by
  subst hi
  have hcell : H[zz_ad G c0]? = some (vp_cell cA (nn, .inr (.inr (.inr (.inr f))))) := hZ.1 c0 _ (zz_W_at hc0 he)
  rw [vp_cell_q] at hcell
  refine W.aald hC.1 hC.2.1 (v := .ref (zz_ad G q)) hcell ((hK.1.2 t0 _ ht).1 nn _) hty (by simp [arrV]) ?_ ?_ rfl rfl hdg kk
  · have h1 : vp_in (nI k) nn := vp_in_nI hkn hnn
    simp only [arrV, Array.size_ofFn]
    exact h1
  · rw [nI_clamp (by omega)]
    simp [arrV, hkn, hv, va_rf]
/-- the table of arities -/
theorem zz_ari (hC : zz_C p s m args meth c cc maxL ret own) (hK : zz_K G s s.heap) (hZ : zz_Z G S s.heap H locs) (k : Nat) {i : Int32} (hi : i = nI k) (hk : k < 8) (hdg : decode cc pc = .ok (.iaload, 1)) (kk : W p l e R s m args below meth c H locs cells slots Q (F0 m (pc + 1) ls (.int (nI (zz_kd k)) :: rest))) : W p l e R s m args below meth c H locs cells slots Q (F0 m pc ls (.int i :: .ref (zz_t G) :: rest)) := by
  subst hi
  exact va_ti hC.1 hC.2.1 hK.2.2.1 hZ.2.2 (vp_in_nI hk (by decide)) (by rw [nI_clamp (by omega)]; rfl) hdg kk
theorem zz_gars {ref : String} {index : Nat} (hC : zz_C p s m args meth c cc maxL ret own) (hK : zz_K G s s.heap) (hZ : zz_Z G S s.heap H locs) (hlink : Cond.fieldLink own index "TreeCoverForge" "ARITIES" "[I" ∈ zz_tbl) (hdg : decode cc pc = .ok (.getstatic index, 3)) (kk : W p l e R s m args below meth c H locs cells slots Q (F0 m (pc + 3) ls (.ref (zz_t G) :: rest))) : W p l e R s m args below meth c H locs cells slots Q (F0 m pc ls rest) :=
  va_gets hC.1 hC.2.1 hK.2.1 hZ.2.2 hC.2.2.2.1 (hC.2.2.2.2.1 _ hlink) (fun _ h => h) hdg kk
theorem zz_garsN {host : String} {index : Nat} (hC : zz_C p s m args meth c cc maxL ret own) (hK : zz_K G s s.heap) (hZ : zz_Z G S s.heap H locs) (hlink : Cond.fieldLinkNest own index "TreeCoverForge" "ARITIES" "[I" host ∈ lw_tbl) (hdg : decode cc pc = .ok (.getstatic index, 3)) (kk : W p l e R s m args below meth c H locs cells slots Q (F0 m (pc + 3) ls (.ref (zz_t G) :: rest))) : W p l e R s m args below meth c H locs cells slots Q (F0 m pc ls rest) :=
  va_getsN hC.1 hC.2.1 hK.2.1 hZ.2.2 hC.2.2.2.1 (va_Nw.use rfl (hK.2.2.2 _ hlink rfl)) (fun _ h => h) hdg kk
/-- the top of the stack by another name -/
theorem zz_topi {x y : Int32} (h : x = y) (kk : W p l e R s m args below meth c H locs cells slots Q (F0 m pc ls (.int y :: rest))) : W p l e R s m args below meth c H locs cells slots Q (F0 m pc ls (.int x :: rest)) := by
  rw [h]; exact kk
theorem zz_topl {x y : Int64} (h : x = y) (kk : W p l e R s m args below meth c H locs cells slots Q (F0 m pc ls (.long y :: rest))) : W p l e R s m args below meth c H locs cells slots Q (F0 m pc ls (.long x :: rest)) := by
  rw [h]; exact kk
end ZR
end
section
/-! Calls over the world as a function, and branches over natural numbers. -/
def zz_Y1 (y : MethodName) (bytes : ByteArray) (mL : Nat) (rt : Option FieldType) (n : Nat) : Prop := Cond.code y bytes mL rt ∈ zz_tbl ∧ Cond.initialized y.cls ∈ zz_tbl ∧ Cond.instanceMethod y ∈ zz_tbl ∧ Cond.selects y.cls y y ∈ zz_tbl ∧ (y.cls ≠ "java/lang/invoke/MethodHandle" ∧ y.cls ≠ "java/lang/invoke/VarHandle" ∧ (parseMethodDescriptor y.desc).map (fun d => d.parameters.length) = some n)
def zz_Y0 (y : MethodName) (bytes : ByteArray) (mL : Nat) (rt : Option FieldType) (n : Nat) : Prop := Cond.code y bytes mL rt ∈ zz_tbl ∧ Cond.initialized y.cls ∈ zz_tbl ∧ Cond.static y ∈ zz_tbl ∧ (y.cls ≠ "java/lang/invoke/MethodHandle" ∧ y.cls ≠ "java/lang/invoke/VarHandle" ∧ (parseMethodDescriptor y.desc).map (fun d => d.parameters.length) = some n)
theorem zz_good {y : MethodName} {bytes : ByteArray} {mL : Nat} {rt : Option FieldType} (h : Cond.code y bytes mL rt ∈ zz_tbl) : GoodIn zz_tbl (Cond.code y bytes mL rt :: zz_tbl) := by
  have hg : ∀ w ∈ zz_tbl, w ∈ zz_tbl ∧ ((w.onTables && w.keeps) = true ∨ ∃ ty, w = .arrayClass ty) := fun w hw => ⟨hw, good_of_word (List.mem_filter.mp hw).2⟩
  intro w hw
  cases List.mem_cons.mp hw with
  | inl e => rw [e]; exact hg _ h
  | inr e => exact hg _ e
section ZC
variable {p : Program} {l : Launch} {e : Env} {R : Room} {s : State} {m : MethodId} {args : Array Value} {below : List Frame} {meth : Method} {c : Code} {H : Heap} {locs : List Loc} {cells slots : Nat} {Q : State → Prop}
variable {cc bytes : ByteArray} {maxL mL n index ci : Nat} {ret rt : Option FieldType} {own : String} {pc : Nat} {ls : Array Slot} {rest st0 As : List Value} {G : zz_G} {S : zz_S} {y : MethodName} {rm : Room} {Qc : Array Value → State → Outcome → State → Prop} {T : u_T} {N : Nat} {fs : List Value}
theorem zz_rV (hC : zz_C p s m args meth c cc maxL ret own) (hK : zz_K G s s.heap) (hZ : zz_Z G S s.heap H locs) (c0 : Nat) (hM : Met l y (Cond.code y bytes mL rt :: zz_tbl) rm (zz_Pc (.ref (zz_ad G c0) :: As) G S) Qc 0 0 (zz_A G)) (hY : zz_Y1 y bytes mL rt n) (hc0 : c0 < zz_n G) (he : zz_y G c0 (S.1 c0) (S.2 c0) = .inr (ci, fs)) (hc : (zz_cl G)[ci]? = some (y.cls, T, N)) (wl : Cond.methodLink own index y ∈ zz_tbl) (hrm : rm.cells = 0 ∧ rm.slots = 0 ∧ rm.frames + 1 ≤ R.frames ∧ 8 + (mL + 11) + rm.locals ≤ R.locals) (hn : As.length = n) (hsz : ls.size = maxL) (hst : st0 = As.reverse ++ .ref (zz_ad G c0) :: rest) (hW : (rest.map fun v => v.category).sum ≤ 8) (hdg : decode cc pc = .ok (.invokevirtual index, 3)) (hcs : cells ≤ R.cells ∧ slots ≤ R.slots) : va_Run p l e R s m args below meth c H locs cells slots 0 0 (F0 m pc ls st0) rest (Qc (Value.ref (zz_ad G c0) :: As).toArray) (zz_A G) :=
  va_runV (Ts := zz_tbl) (own := own) (C := y.cls) (cc := cc) (nL := maxL) ⟨hC.1, hC.2.1, hC.2.2.1, hC.2.2.2.1, hC.2.2.2.2.1⟩ hM ⟨callB_of n hC.2.2.2.2.1 (zz_good hY.1) rfl hrm.1 hrm.2.1 (hC.2.2.2.2.1 _ hY.2.1) (hC.2.2.2.2.1 _ wl) hY.2.2.2.2 hrm.2.2, hC.2.2.2.2.1 _ hY.2.2.1, hC.2.2.2.2.1 _ hY.2.2.2.1⟩ ⟨zz_blind, va_recv hK.1 hZ.1 hc (zz_W_at hc0 he), fun U hU hW => ⟨rfl, zz_here hK hZ hU hW⟩⟩ rfl hn hsz hst (lv_room hW) hdg hcs
theorem zz_rVN {host : String} (hC : zz_C p s m args meth c cc maxL ret own) (hK : zz_K G s s.heap) (hZ : zz_Z G S s.heap H locs) (c0 : Nat) (hM : Met l y (Cond.code y bytes mL rt :: zz_tbl) rm (zz_Pc (.ref (zz_ad G c0) :: As) G S) Qc 0 0 (zz_A G)) (hY : zz_Y1 y bytes mL rt n) (hc0 : c0 < zz_n G) (he : zz_y G c0 (S.1 c0) (S.2 c0) = .inr (ci, fs)) (hc : (zz_cl G)[ci]? = some (y.cls, T, N)) (wl : Cond.methodLinkNest own index y host ∈ lw_tbl) (hrm : rm.cells = 0 ∧ rm.slots = 0 ∧ rm.frames + 1 ≤ R.frames ∧ 8 + (mL + 11) + rm.locals ≤ R.locals) (hn : As.length = n) (hsz : ls.size = maxL) (hst : st0 = As.reverse ++ .ref (zz_ad G c0) :: rest) (hW : (rest.map fun v => v.category).sum ≤ 8) (hdg : decode cc pc = .ok (.invokevirtual index, 3)) (hcs : cells ≤ R.cells ∧ slots ≤ R.slots) : va_Run p l e R s m args below meth c H locs cells slots 0 0 (F0 m pc ls st0) rest (Qc (Value.ref (zz_ad G c0) :: As).toArray) (zz_A G) :=
  va_runVN (Ts := zz_tbl) (own := own) (C := y.cls) (cc := cc) (nL := maxL) ⟨hC.1, hC.2.1, hC.2.2.1, hC.2.2.2.1, hC.2.2.2.2.1⟩ hM ⟨va_cnB n hC.2.2.2.2.1 (zz_good hY.1) rfl hrm.1 hrm.2.1 (hK.2.2.2 _ wl rfl) (hC.2.2.2.2.1 _ hY.2.1) hY.2.2.2.2 hrm.2.2, hC.2.2.2.2.1 _ hY.2.2.1, hC.2.2.2.2.1 _ hY.2.2.2.1⟩ ⟨zz_blind, va_recv hK.1 hZ.1 hc (zz_W_at hc0 he), fun U hU hW => ⟨rfl, zz_here hK hZ hU hW⟩⟩ rfl hn hsz hst (lv_room hW) hdg hcs
theorem zz_rS (hC : zz_C p s m args meth c cc maxL ret own) (hK : zz_K G s s.heap) (hZ : zz_Z G S s.heap H locs) (hM : Met l y (Cond.code y bytes mL rt :: zz_tbl) rm (zz_Pc As G S) Qc 0 0 (zz_A G)) (hY : zz_Y0 y bytes mL rt n) (wl : Cond.methodLink own index y ∈ zz_tbl) (hrm : rm.cells = 0 ∧ rm.slots = 0 ∧ rm.frames + 1 ≤ R.frames ∧ 8 + (mL + 11) + rm.locals ≤ R.locals) (hn : As.length = n) (hsz : ls.size = maxL) (hst : st0 = As.reverse ++ rest) (hW : (rest.map fun v => v.category).sum ≤ 8) (hdg : decode cc pc = .ok (.invokestatic index, 3)) (hcs : cells ≤ R.cells ∧ slots ≤ R.slots) : va_Run p l e R s m args below meth c H locs cells slots 0 0 (F0 m pc ls st0) rest (Qc As.toArray) (zz_A G) :=
  va_runS (Ts := zz_tbl) (own := own) (cc := cc) (nL := maxL) ⟨hC.1, hC.2.1, hC.2.2.1, hC.2.2.2.1, hC.2.2.2.2.1⟩ hM ⟨callB_of n hC.2.2.2.2.1 (zz_good hY.1) rfl hrm.1 hrm.2.1 (hC.2.2.2.2.1 _ hY.2.1) (hC.2.2.2.2.1 _ wl) hY.2.2.2 hrm.2.2, hC.2.2.2.2.1 _ hY.2.2.1⟩ ⟨zz_blind, fun U hU hW => ⟨rfl, zz_here hK hZ hU hW⟩⟩ rfl hn hsz hst (lv_room hW) hdg hcs
theorem zz_rSN {host : String} (hC : zz_C p s m args meth c cc maxL ret own) (hK : zz_K G s s.heap) (hZ : zz_Z G S s.heap H locs) (hM : Met l y (Cond.code y bytes mL rt :: zz_tbl) rm (zz_Pc As G S) Qc 0 0 (zz_A G)) (hY : zz_Y0 y bytes mL rt n) (wl : Cond.methodLinkNest own index y host ∈ lw_tbl) (hrm : rm.cells = 0 ∧ rm.slots = 0 ∧ rm.frames + 1 ≤ R.frames ∧ 8 + (mL + 11) + rm.locals ≤ R.locals) (hn : As.length = n) (hsz : ls.size = maxL) (hst : st0 = As.reverse ++ rest) (hW : (rest.map fun v => v.category).sum ≤ 8) (hdg : decode cc pc = .ok (.invokestatic index, 3)) (hcs : cells ≤ R.cells ∧ slots ≤ R.slots) : va_Run p l e R s m args below meth c H locs cells slots 0 0 (F0 m pc ls st0) rest (Qc As.toArray) (zz_A G) :=
  va_runSN (Ts := zz_tbl) (own := own) (cc := cc) (nL := maxL) ⟨hC.1, hC.2.1, hC.2.2.1, hC.2.2.2.1, hC.2.2.2.2.1⟩ hM ⟨va_cnB n hC.2.2.2.2.1 (zz_good hY.1) rfl hrm.1 hrm.2.1 (hK.2.2.2 _ wl rfl) (hC.2.2.2.2.1 _ hY.2.1) hY.2.2.2 hrm.2.2, hC.2.2.2.2.1 _ hY.2.2.1, trivial⟩ ⟨zz_blind, fun U hU hW => ⟨rfl, zz_here hK hZ hU hW⟩⟩ rfl hn hsz hst (lv_room hW) hdg hcs
theorem zz_ci {post : Int32 → zz_S → Prop} {a : Array Value} (hr : va_Run p l e R s m args below meth c H locs cells slots 0 0 (F0 m pc ls st0) rest (va_Qi post (zz_P G) (zz_A G) a) (zz_A G)) (hZ : zz_Z G S s.heap H locs) (kk : ∀ (r : Int32) (S1 : zz_S) (H1 : Heap) (locs1 : List Loc), post r S1 → zz_Z G S1 s.heap H1 locs1 → W p l e R s m args below meth c H1 locs1 cells slots Q (F0 m (pc + 3) ls (.int r :: rest))) : W p l e R s m args below meth c H locs cells slots Q (F0 m pc ls st0) :=
  va_calli hr hZ.2.2 (fun q _ h => h) (fun q h => h) (fun r u t H1 locs1 ht hvm hp hB hz1 hk1 hS => kk r u H1 locs1 hp ⟨by rw [← ht]; exact hB.1, hB.2.1, hS⟩)
theorem zz_clg {post : Int64 → zz_S → Prop} {a : Array Value} (hr : va_Run p l e R s m args below meth c H locs cells slots 0 0 (F0 m pc ls st0) rest (va_Ql post (zz_P G) (zz_A G) a) (zz_A G)) (hZ : zz_Z G S s.heap H locs) (kk : ∀ (r : Int64) (S1 : zz_S) (H1 : Heap) (locs1 : List Loc), post r S1 → zz_Z G S1 s.heap H1 locs1 → W p l e R s m args below meth c H1 locs1 cells slots Q (F0 m (pc + 3) ls (.long r :: rest))) : W p l e R s m args below meth c H locs cells slots Q (F0 m pc ls st0) :=
  va_calll hr hZ.2.2 (fun q _ h => h) (fun q h => h) (fun r u t H1 locs1 ht hvm hp hB hz1 hk1 hS => kk r u H1 locs1 hp ⟨by rw [← ht]; exact hB.1, hB.2.1, hS⟩)
theorem zz_cv {post : zz_S → Prop} {a : Array Value} (hr : va_Run p l e R s m args below meth c H locs cells slots 0 0 (F0 m pc ls st0) rest (va_Qv post (zz_P G) (zz_A G) a) (zz_A G)) (hZ : zz_Z G S s.heap H locs) (kk : ∀ (S1 : zz_S) (H1 : Heap) (locs1 : List Loc), post S1 → zz_Z G S1 s.heap H1 locs1 → W p l e R s m args below meth c H1 locs1 cells slots Q (F0 m (pc + 3) ls rest)) : W p l e R s m args below meth c H locs cells slots Q (F0 m pc ls st0) :=
  va_callv hr hZ.2.2 (fun q _ h => h) (fun q h => h) (fun u t H1 locs1 ht hvm hp hB hz1 hk1 hS => kk u H1 locs1 hp ⟨by rw [← ht]; exact hB.1, hB.2.1, hS⟩)
theorem zz_cr {post : Nat → zz_S → Prop} {a : Array Value} (hr : va_Run p l e R s m args below meth c H locs cells slots 0 0 (F0 m pc ls st0) rest (va_Qr (fun u : Nat × zz_S => post u.1 u.2) (fun u a t => a = zz_ad G u.1 ∧ zz_P G u.2 t) (zz_A G) a) (zz_A G)) (hZ : zz_Z G S s.heap H locs) (kk : ∀ (q : Nat) (S1 : zz_S) (H1 : Heap) (locs1 : List Loc), post q S1 → zz_Z G S1 s.heap H1 locs1 → W p l e R s m args below meth c H1 locs1 cells slots Q (F0 m (pc + 3) ls (.ref (zz_ad G q) :: rest))) : W p l e R s m args below meth c H locs cells slots Q (F0 m pc ls st0) :=
  va_callr hr hZ.2.2 (fun q _ h => h) (fun q h => h) (fun u ra t H1 locs1 ht hvm hp hB hz1 hk1 hS => by
    obtain ⟨rfl, hB⟩ := hB
    exact kk u.1 u.2 H1 locs1 hp ⟨by rw [← ht]; exact hB.1, hB.2.1, hS⟩)
variable {a b : Nat} {off : Int} {tgt : Nat}
theorem zz_jeq (hC : zz_C p s m args meth c cc maxL ret own) (hdg : decode cc pc = .ok (.if_icmp .eq off, 3)) (ht : (pc : Int) + off = (tgt : Int)) (ha : a < 2 ^ 31) (hb : b < 2 ^ 31) (kt : a = b → W p l e R s m args below meth c H locs cells slots Q (F0 m tgt ls rest)) (kf : a ≠ b → W p l e R s m args below meth c H locs cells slots Q (F0 m (pc + 3) ls rest)) : W p l e R s m args below meth c H locs cells slots Q (F0 m pc ls (.int (nI b) :: .int (nI a) :: rest)) :=
  lv_icmp_eq hC.1 hC.2.1 hdg ht (fun h => kt ((nI_eq ha hb).mp h)) (fun h => kf (fun h2 => h ((nI_eq ha hb).mpr h2)))
theorem zz_jne (hC : zz_C p s m args meth c cc maxL ret own) (hdg : decode cc pc = .ok (.if_icmp .ne off, 3)) (ht : (pc : Int) + off = (tgt : Int)) (ha : a < 2 ^ 31) (hb : b < 2 ^ 31) (kt : a ≠ b → W p l e R s m args below meth c H locs cells slots Q (F0 m tgt ls rest)) (kf : a = b → W p l e R s m args below meth c H locs cells slots Q (F0 m (pc + 3) ls rest)) : W p l e R s m args below meth c H locs cells slots Q (F0 m pc ls (.int (nI b) :: .int (nI a) :: rest)) :=
  lv_icmp_ne hC.1 hC.2.1 hdg ht (fun h => kt (fun h2 => h ((nI_eq ha hb).mpr h2))) (fun h => kf ((nI_eq ha hb).mp h))
theorem zz_jlt (hC : zz_C p s m args meth c cc maxL ret own) (hdg : decode cc pc = .ok (.if_icmp .lt off, 3)) (ht : (pc : Int) + off = (tgt : Int)) (ha : a < 2 ^ 31) (hb : b < 2 ^ 31) (kt : a < b → W p l e R s m args below meth c H locs cells slots Q (F0 m tgt ls rest)) (kf : b ≤ a → W p l e R s m args below meth c H locs cells slots Q (F0 m (pc + 3) ls rest)) : W p l e R s m args below meth c H locs cells slots Q (F0 m pc ls (.int (nI b) :: .int (nI a) :: rest)) :=
  lv_icmp_lt hC.1 hC.2.1 hdg ht (fun h => kt ((nI_ltI ha hb).mp h)) (fun h => kf (Nat.le_of_not_lt (fun h2 => h ((nI_ltI ha hb).mpr h2))))
theorem zz_jge (hC : zz_C p s m args meth c cc maxL ret own) (hdg : decode cc pc = .ok (.if_icmp .ge off, 3)) (ht : (pc : Int) + off = (tgt : Int)) (ha : a < 2 ^ 31) (hb : b < 2 ^ 31) (kt : b ≤ a → W p l e R s m args below meth c H locs cells slots Q (F0 m tgt ls rest)) (kf : a < b → W p l e R s m args below meth c H locs cells slots Q (F0 m (pc + 3) ls rest)) : W p l e R s m args below meth c H locs cells slots Q (F0 m pc ls (.int (nI b) :: .int (nI a) :: rest)) :=
  lv_icmp_ge hC.1 hC.2.1 hdg ht (fun h => kt ((nI_leI hb ha).mp h)) (fun h => kf (Nat.lt_of_not_le (fun h2 => h ((nI_leI hb ha).mpr h2))))
theorem zz_jgt (hC : zz_C p s m args meth c cc maxL ret own) (hdg : decode cc pc = .ok (.if_icmp .gt off, 3)) (ht : (pc : Int) + off = (tgt : Int)) (ha : a < 2 ^ 31) (hb : b < 2 ^ 31) (kt : b < a → W p l e R s m args below meth c H locs cells slots Q (F0 m tgt ls rest)) (kf : a ≤ b → W p l e R s m args below meth c H locs cells slots Q (F0 m (pc + 3) ls rest)) : W p l e R s m args below meth c H locs cells slots Q (F0 m pc ls (.int (nI b) :: .int (nI a) :: rest)) :=
  lv_icmp_gt hC.1 hC.2.1 hdg ht (fun h => kt ((nI_ltI hb ha).mp h)) (fun h => kf (Nat.le_of_not_lt (fun h2 => h ((nI_ltI hb ha).mpr h2))))
theorem zz_jle (hC : zz_C p s m args meth c cc maxL ret own) (hdg : decode cc pc = .ok (.if_icmp .le off, 3)) (ht : (pc : Int) + off = (tgt : Int)) (ha : a < 2 ^ 31) (hb : b < 2 ^ 31) (kt : a ≤ b → W p l e R s m args below meth c H locs cells slots Q (F0 m tgt ls rest)) (kf : b < a → W p l e R s m args below meth c H locs cells slots Q (F0 m (pc + 3) ls rest)) : W p l e R s m args below meth c H locs cells slots Q (F0 m pc ls (.int (nI b) :: .int (nI a) :: rest)) :=
  lv_icmp_le hC.1 hC.2.1 hdg ht (fun h => kt ((nI_leI ha hb).mp h)) (fun h => kf (Nat.lt_of_not_le (fun h2 => h ((nI_leI ha hb).mpr h2))))
theorem zz_ieq (hC : zz_C p s m args meth c cc maxL ret own) (hdg : decode cc pc = .ok (.ifCond .eq off, 3)) (ht : (pc : Int) + off = (tgt : Int)) (ha : a < 2 ^ 31) (kt : a = 0 → W p l e R s m args below meth c H locs cells slots Q (F0 m tgt ls rest)) (kf : a ≠ 0 → W p l e R s m args below meth c H locs cells slots Q (F0 m (pc + 3) ls rest)) : W p l e R s m args below meth c H locs cells slots Q (F0 m pc ls (.int (nI a) :: rest)) :=
  lv_if_eq hC.1 hC.2.1 hdg ht (fun h => kt ((nI_eq ha (by decide)).mp (h.trans nI_0.symm))) (fun h => kf (fun h2 => h (by rw [h2]; exact nI_0)))
theorem zz_ine (hC : zz_C p s m args meth c cc maxL ret own) (hdg : decode cc pc = .ok (.ifCond .ne off, 3)) (ht : (pc : Int) + off = (tgt : Int)) (ha : a < 2 ^ 31) (kt : a ≠ 0 → W p l e R s m args below meth c H locs cells slots Q (F0 m tgt ls rest)) (kf : a = 0 → W p l e R s m args below meth c H locs cells slots Q (F0 m (pc + 3) ls rest)) : W p l e R s m args below meth c H locs cells slots Q (F0 m pc ls (.int (nI a) :: rest)) :=
  lv_if_ne hC.1 hC.2.1 hdg ht (fun h => kt (fun h2 => h (by rw [h2]; exact nI_0))) (fun h => kf ((nI_eq ha (by decide)).mp (h.trans nI_0.symm)))
theorem zz_ile (hC : zz_C p s m args meth c cc maxL ret own) (hdg : decode cc pc = .ok (.ifCond .le off, 3)) (ht : (pc : Int) + off = (tgt : Int)) (ha : a < 2 ^ 31) (kt : a = 0 → W p l e R s m args below meth c H locs cells slots Q (F0 m tgt ls rest)) (kf : a ≠ 0 → W p l e R s m args below meth c H locs cells slots Q (F0 m (pc + 3) ls rest)) : W p l e R s m args below meth c H locs cells slots Q (F0 m pc ls (.int (nI a) :: rest)) :=
  lv_if_le hC.1 hC.2.1 hdg ht (fun h => kt (Nat.le_zero.mp ((nI_leI ha (b := 0) (by decide)).mp (by rw [nI_0]; exact h)))) (fun h => kf (fun h2 => h (by rw [h2, nI_0]; decide)))
theorem zz_igt (hC : zz_C p s m args meth c cc maxL ret own) (hdg : decode cc pc = .ok (.ifCond .gt off, 3)) (ht : (pc : Int) + off = (tgt : Int)) (ha : a < 2 ^ 31) (kt : a ≠ 0 → W p l e R s m args below meth c H locs cells slots Q (F0 m tgt ls rest)) (kf : a = 0 → W p l e R s m args below meth c H locs cells slots Q (F0 m (pc + 3) ls rest)) : W p l e R s m args below meth c H locs cells slots Q (F0 m pc ls (.int (nI a) :: rest)) :=
  lv_if_gt hC.1 hC.2.1 hdg ht (fun h => kt (fun h2 => by rw [h2, nI_0] at h; exact absurd h (by decide))) (fun h => kf (Nat.eq_zero_of_not_pos (fun h2 => h (by rw [← nI_0]; exact (nI_ltI (by decide) ha).mpr h2))))
theorem zz_ilt (hC : zz_C p s m args meth c cc maxL ret own) (hdg : decode cc pc = .ok (.ifCond .lt off, 3)) (ht : (pc : Int) + off = (tgt : Int)) (ha : a < 2 ^ 31) (kf : W p l e R s m args below meth c H locs cells slots Q (F0 m (pc + 3) ls rest)) : W p l e R s m args below meth c H locs cells slots Q (F0 m pc ls (.int (nI a) :: rest)) :=
  lv_if_lt hC.1 hC.2.1 hdg ht (fun h => absurd h (nI_pos ha)) (fun _ => kf)
theorem zz_ige (hC : zz_C p s m args meth c cc maxL ret own) (hdg : decode cc pc = .ok (.ifCond .ge off, 3)) (ht : (pc : Int) + off = (tgt : Int)) (ha : a < 2 ^ 31) (kt : W p l e R s m args below meth c H locs cells slots Q (F0 m tgt ls rest)) : W p l e R s m args below meth c H locs cells slots Q (F0 m pc ls (.int (nI a) :: rest)) :=
  lv_if_ge hC.1 hC.2.1 hdg ht (fun _ => kt) (fun h => absurd (nI_pos' ha) h)
end ZC
section ZJ
variable {p : Program} {l : Launch} {e : Env} {R : Room} {s : State} {m : MethodId} {args : Array Value} {below : List Frame} {meth : Method} {c : Code} {H : Heap} {locs : List Loc} {cells slots : Nat} {Q : State → Prop} {cc : ByteArray} {maxL : Nat} {ret : Option FieldType} {own : String} {pc : Nat} {ls : Array Slot} {rest : List Value} {off : Int} {tgt : Nat} {x y : Int32}
theorem zz_rjeq (hC : zz_C p s m args meth c cc maxL ret own) (hdg : decode cc pc = .ok (.if_icmp .eq off, 3)) (ht : (pc : Int) + off = (tgt : Int)) (kt : x.toInt = y.toInt → W p l e R s m args below meth c H locs cells slots Q (F0 m tgt ls rest)) (kf : x.toInt ≠ y.toInt → W p l e R s m args below meth c H locs cells slots Q (F0 m (pc + 3) ls rest)) : W p l e R s m args below meth c H locs cells slots Q (F0 m pc ls (.int y :: .int x :: rest)) :=
  lv_icmp_eq hC.1 hC.2.1 hdg ht (fun h => kt (congrArg Int32.toInt h)) (fun h => kf (fun z => h (Int32.toInt_inj.mp z)))
theorem zz_rjne (hC : zz_C p s m args meth c cc maxL ret own) (hdg : decode cc pc = .ok (.if_icmp .ne off, 3)) (ht : (pc : Int) + off = (tgt : Int)) (kt : x.toInt ≠ y.toInt → W p l e R s m args below meth c H locs cells slots Q (F0 m tgt ls rest)) (kf : x.toInt = y.toInt → W p l e R s m args below meth c H locs cells slots Q (F0 m (pc + 3) ls rest)) : W p l e R s m args below meth c H locs cells slots Q (F0 m pc ls (.int y :: .int x :: rest)) :=
  lv_icmp_ne hC.1 hC.2.1 hdg ht (fun h => kt (fun z => h (Int32.toInt_inj.mp z))) (fun h => kf (congrArg Int32.toInt h))
theorem zz_rjlt (hC : zz_C p s m args meth c cc maxL ret own) (hdg : decode cc pc = .ok (.if_icmp .lt off, 3)) (ht : (pc : Int) + off = (tgt : Int)) (kt : x.toInt < y.toInt → W p l e R s m args below meth c H locs cells slots Q (F0 m tgt ls rest)) (kf : y.toInt ≤ x.toInt → W p l e R s m args below meth c H locs cells slots Q (F0 m (pc + 3) ls rest)) : W p l e R s m args below meth c H locs cells slots Q (F0 m pc ls (.int y :: .int x :: rest)) :=
  lv_icmp_lt hC.1 hC.2.1 hdg ht (fun h => kt (Int32.lt_iff_toInt_lt.mp h)) (fun h => kf (Int.not_lt.mp (fun z => h (Int32.lt_iff_toInt_lt.mpr z))))
theorem zz_rjge (hC : zz_C p s m args meth c cc maxL ret own) (hdg : decode cc pc = .ok (.if_icmp .ge off, 3)) (ht : (pc : Int) + off = (tgt : Int)) (kt : y.toInt ≤ x.toInt → W p l e R s m args below meth c H locs cells slots Q (F0 m tgt ls rest)) (kf : x.toInt < y.toInt → W p l e R s m args below meth c H locs cells slots Q (F0 m (pc + 3) ls rest)) : W p l e R s m args below meth c H locs cells slots Q (F0 m pc ls (.int y :: .int x :: rest)) :=
  lv_icmp_ge hC.1 hC.2.1 hdg ht (fun h => kt (Int32.le_iff_toInt_le.mp h)) (fun h => kf (Int.not_le.mp (fun z => h (Int32.le_iff_toInt_le.mpr z))))
theorem zz_rjgt (hC : zz_C p s m args meth c cc maxL ret own) (hdg : decode cc pc = .ok (.if_icmp .gt off, 3)) (ht : (pc : Int) + off = (tgt : Int)) (kt : y.toInt < x.toInt → W p l e R s m args below meth c H locs cells slots Q (F0 m tgt ls rest)) (kf : x.toInt ≤ y.toInt → W p l e R s m args below meth c H locs cells slots Q (F0 m (pc + 3) ls rest)) : W p l e R s m args below meth c H locs cells slots Q (F0 m pc ls (.int y :: .int x :: rest)) :=
  lv_icmp_gt hC.1 hC.2.1 hdg ht (fun h => kt (Int32.lt_iff_toInt_lt.mp h)) (fun h => kf (Int.not_lt.mp (fun z => h (Int32.lt_iff_toInt_lt.mpr z))))
theorem zz_rjle (hC : zz_C p s m args meth c cc maxL ret own) (hdg : decode cc pc = .ok (.if_icmp .le off, 3)) (ht : (pc : Int) + off = (tgt : Int)) (kt : x.toInt ≤ y.toInt → W p l e R s m args below meth c H locs cells slots Q (F0 m tgt ls rest)) (kf : y.toInt < x.toInt → W p l e R s m args below meth c H locs cells slots Q (F0 m (pc + 3) ls rest)) : W p l e R s m args below meth c H locs cells slots Q (F0 m pc ls (.int y :: .int x :: rest)) :=
  lv_icmp_le hC.1 hC.2.1 hdg ht (fun h => kt (Int32.le_iff_toInt_le.mp h)) (fun h => kf (Int.not_le.mp (fun z => h (Int32.le_iff_toInt_le.mpr z))))
theorem zz_rieq (hC : zz_C p s m args meth c cc maxL ret own) (hdg : decode cc pc = .ok (.ifCond .eq off, 3)) (ht : (pc : Int) + off = (tgt : Int)) (kt : x.toInt = 0 → W p l e R s m args below meth c H locs cells slots Q (F0 m tgt ls rest)) (kf : x.toInt ≠ 0 → W p l e R s m args below meth c H locs cells slots Q (F0 m (pc + 3) ls rest)) : W p l e R s m args below meth c H locs cells slots Q (F0 m pc ls (.int x :: rest)) :=
  lv_if_eq hC.1 hC.2.1 hdg ht (fun h => kt (congrArg Int32.toInt h)) (fun h => kf (fun z => h (Int32.toInt_inj.mp z)))
theorem zz_rine (hC : zz_C p s m args meth c cc maxL ret own) (hdg : decode cc pc = .ok (.ifCond .ne off, 3)) (ht : (pc : Int) + off = (tgt : Int)) (kt : x.toInt ≠ 0 → W p l e R s m args below meth c H locs cells slots Q (F0 m tgt ls rest)) (kf : x.toInt = 0 → W p l e R s m args below meth c H locs cells slots Q (F0 m (pc + 3) ls rest)) : W p l e R s m args below meth c H locs cells slots Q (F0 m pc ls (.int x :: rest)) :=
  lv_if_ne hC.1 hC.2.1 hdg ht (fun h => kt (fun z => h (Int32.toInt_inj.mp z))) (fun h => kf (congrArg Int32.toInt h))
theorem zz_rilt (hC : zz_C p s m args meth c cc maxL ret own) (hdg : decode cc pc = .ok (.ifCond .lt off, 3)) (ht : (pc : Int) + off = (tgt : Int)) (kt : x.toInt < 0 → W p l e R s m args below meth c H locs cells slots Q (F0 m tgt ls rest)) (kf : 0 ≤ x.toInt → W p l e R s m args below meth c H locs cells slots Q (F0 m (pc + 3) ls rest)) : W p l e R s m args below meth c H locs cells slots Q (F0 m pc ls (.int x :: rest)) :=
  lv_if_lt hC.1 hC.2.1 hdg ht (fun h => kt (Int32.lt_iff_toInt_lt.mp h)) (fun h => kf (Int.not_lt.mp (fun z => h (Int32.lt_iff_toInt_lt.mpr z))))
theorem zz_rige (hC : zz_C p s m args meth c cc maxL ret own) (hdg : decode cc pc = .ok (.ifCond .ge off, 3)) (ht : (pc : Int) + off = (tgt : Int)) (kt : 0 ≤ x.toInt → W p l e R s m args below meth c H locs cells slots Q (F0 m tgt ls rest)) (kf : x.toInt < 0 → W p l e R s m args below meth c H locs cells slots Q (F0 m (pc + 3) ls rest)) : W p l e R s m args below meth c H locs cells slots Q (F0 m pc ls (.int x :: rest)) :=
  lv_if_ge hC.1 hC.2.1 hdg ht (fun h => kt (Int32.le_iff_toInt_le.mp h)) (fun h => kf (Int.not_le.mp (fun z => h (Int32.le_iff_toInt_le.mpr z))))
theorem zz_rigt (hC : zz_C p s m args meth c cc maxL ret own) (hdg : decode cc pc = .ok (.ifCond .gt off, 3)) (ht : (pc : Int) + off = (tgt : Int)) (kt : 0 < x.toInt → W p l e R s m args below meth c H locs cells slots Q (F0 m tgt ls rest)) (kf : x.toInt ≤ 0 → W p l e R s m args below meth c H locs cells slots Q (F0 m (pc + 3) ls rest)) : W p l e R s m args below meth c H locs cells slots Q (F0 m pc ls (.int x :: rest)) :=
  lv_if_gt hC.1 hC.2.1 hdg ht (fun h => kt (Int32.lt_iff_toInt_lt.mp h)) (fun h => kf (Int.not_lt.mp (fun z => h (Int32.lt_iff_toInt_lt.mpr z))))
theorem zz_rile (hC : zz_C p s m args meth c cc maxL ret own) (hdg : decode cc pc = .ok (.ifCond .le off, 3)) (ht : (pc : Int) + off = (tgt : Int)) (kt : x.toInt ≤ 0 → W p l e R s m args below meth c H locs cells slots Q (F0 m tgt ls rest)) (kf : 0 < x.toInt → W p l e R s m args below meth c H locs cells slots Q (F0 m (pc + 3) ls rest)) : W p l e R s m args below meth c H locs cells slots Q (F0 m pc ls (.int x :: rest)) :=
  lv_if_le hC.1 hC.2.1 hdg ht (fun h => kt (Int32.le_iff_toInt_le.mp h)) (fun h => kf (Int.not_le.mp (fun z => h (Int32.le_iff_toInt_le.mpr z))))
theorem zz_m1 {a : Nat} (ha : a < 2 ^ 31) : (nI a - 1).toInt = (a : Int) - 1 := by
  rw [Int32.toInt_sub, nI_toInt ha, show (1 : Int32).toInt = 1 from rfl]
  exact Jvm.Kit.bmod32 (by omega) (by omega)
theorem zz_plt {a : Nat} (hC : zz_C p s m args meth c cc maxL ret own) (hdg : decode cc pc = .ok (.ifCond .lt off, 3)) (ht : (pc : Int) + off = (tgt : Int)) (ha : a < 2 ^ 31) (kt : a = 0 → W p l e R s m args below meth c H locs cells slots Q (F0 m tgt ls rest)) (kf : a ≠ 0 → W p l e R s m args below meth c H locs cells slots Q (F0 m (pc + 3) ls rest)) : W p l e R s m args below meth c H locs cells slots Q (F0 m pc ls (.int (nI a - 1) :: rest)) :=
  zz_rilt hC hdg ht (fun h => kt (by rw [zz_m1 ha] at h; omega)) (fun h => kf (by rw [zz_m1 ha] at h; omega))
theorem zz_dec1 {a : Nat} (h : 1 ≤ a) : nI a + Int32.ofInt (-1) = nI (a - 1) := by
  have e : a = (a - 1) + 1 := by omega
  rw [e]
  exact pk_m1 (a - 1)
theorem zz_prd1 {a : Nat} (h : 1 ≤ a) : nI a - 1 + Int32.ofInt (-1) = nI (a - 1) - 1 := by
  rw [show nI a - 1 = nI (a - 1) from by
    have e : a = (a - 1) + 1 := by omega
    rw [e]
    exact nI_pred (a - 1)]
  rw [Int32.sub_eq_add_neg]
  rfl
theorem zz_prd {a : Nat} (h : a ≠ 0) : nI a - 1 = nI (a - 1) := by
  have e : a = (a - 1) + 1 := by omega
  rw [e]
  exact nI_pred (a - 1)
end ZJ
end
section
/-! The words of the tables, each by its place in lw_tbl. -/
theorem wd_41 : Cond.methodLink "TreeCoverForgeLaw" 9 y_Forge_init ∈ zz_tbl := zz_in (i := 41) (by decide +kernel) rfl
theorem wd_44 : Cond.methodLink "TreeCoverForge" 3 y_Object_init ∈ zz_tbl := zz_in (i := 44) (by decide +kernel) rfl
theorem wd_49 : Cond.methodLinkNest "TreeCoverForge" 11 y_Book_init "TreeCoverForge" ∈ lw_tbl := List.mem_of_getElem? (i := 49) (by decide +kernel)
theorem wd_52 : Cond.methodLink "TreeCoverForge$RuleBook" 3 y_Object_init ∈ zz_tbl := zz_in (i := 52) (by decide +kernel) rfl
theorem wd_55 : Cond.fieldLink "TreeCoverForge$RuleBook" 9 "TreeCoverForge$RuleBook" "kinds" "[I" ∈ zz_tbl := zz_in (i := 55) (by decide +kernel) rfl
theorem wd_56 : Cond.fieldLink "TreeCoverForge$Label" 57 "TreeCoverForge$RuleBook" "kinds" "[I" ∈ zz_tbl := zz_in (i := 56) (by decide +kernel) rfl
theorem wd_57 : Cond.fieldLink "TreeCoverForge$RuleBook" 15 "TreeCoverForge$RuleBook" "ops" "[I" ∈ zz_tbl := zz_in (i := 57) (by decide +kernel) rfl
theorem wd_58 : Cond.fieldLink "TreeCoverForge$Code" 101 "TreeCoverForge$RuleBook" "ops" "[I" ∈ zz_tbl := zz_in (i := 58) (by decide +kernel) rfl
theorem wd_59 : Cond.fieldLink "TreeCoverForge$RuleBook" 18 "TreeCoverForge$RuleBook" "firsts" "[I" ∈ zz_tbl := zz_in (i := 59) (by decide +kernel) rfl
theorem wd_60 : Cond.fieldLink "TreeCoverForge$Label" 39 "TreeCoverForge$RuleBook" "firsts" "[I" ∈ zz_tbl := zz_in (i := 60) (by decide +kernel) rfl
theorem wd_61 : Cond.fieldLink "TreeCoverForge$Code" 88 "TreeCoverForge$RuleBook" "firsts" "[I" ∈ zz_tbl := zz_in (i := 61) (by decide +kernel) rfl
theorem wd_62 : Cond.fieldLink "TreeCoverForge$RuleBook" 21 "TreeCoverForge$RuleBook" "seconds" "[I" ∈ zz_tbl := zz_in (i := 62) (by decide +kernel) rfl
theorem wd_63 : Cond.fieldLink "TreeCoverForge$Label" 42 "TreeCoverForge$RuleBook" "seconds" "[I" ∈ zz_tbl := zz_in (i := 63) (by decide +kernel) rfl
theorem wd_64 : Cond.fieldLink "TreeCoverForge$Code" 91 "TreeCoverForge$RuleBook" "seconds" "[I" ∈ zz_tbl := zz_in (i := 64) (by decide +kernel) rfl
theorem wd_65 : Cond.fieldLink "TreeCoverForge$RuleBook" 24 "TreeCoverForge$RuleBook" "costs" "[I" ∈ zz_tbl := zz_in (i := 65) (by decide +kernel) rfl
theorem wd_66 : Cond.fieldLink "TreeCoverForge$Label" 60 "TreeCoverForge$RuleBook" "costs" "[I" ∈ zz_tbl := zz_in (i := 66) (by decide +kernel) rfl
theorem wd_67 : Cond.fieldLink "TreeCoverForge$RuleBook" 29 "TreeCoverForge$RuleBook" "numbersOf" "[[I" ∈ zz_tbl := zz_in (i := 67) (by decide +kernel) rfl
theorem wd_68 : Cond.fieldLink "TreeCoverForge$Label" 35 "TreeCoverForge$RuleBook" "numbersOf" "[[I" ∈ zz_tbl := zz_in (i := 68) (by decide +kernel) rfl
theorem wd_69 : Cond.fieldLink "TreeCoverForge$RuleBook" 32 "TreeCoverForge$RuleBook" "sizeOf" "[I" ∈ zz_tbl := zz_in (i := 69) (by decide +kernel) rfl
theorem wd_70 : Cond.fieldLink "TreeCoverForge$Label" 30 "TreeCoverForge$RuleBook" "sizeOf" "[I" ∈ zz_tbl := zz_in (i := 70) (by decide +kernel) rfl
theorem wd_71 : Cond.fieldLink "TreeCoverForge$RuleBook" 35 "TreeCoverForge$RuleBook" "count" "I" ∈ zz_tbl := zz_in (i := 71) (by decide +kernel) rfl
theorem wd_72 : Cond.fieldLink "TreeCoverForge" 57 "TreeCoverForge$RuleBook" "count" "I" ∈ zz_tbl := zz_in (i := 72) (by decide +kernel) rfl
theorem wd_93 : Cond.methodLink "TreeCoverForge" 18 y_Pile_init ∈ zz_tbl := zz_in (i := 93) (by decide +kernel) rfl
theorem wd_96 : Cond.methodLink "TreeCoverForge$Pile" 3 y_Object_init ∈ zz_tbl := zz_in (i := 96) (by decide +kernel) rfl
theorem wd_100 : Cond.methodLinkNest "TreeCoverForge$Pile" 33 y_Label_init "TreeCoverForge" ∈ lw_tbl := List.mem_of_getElem? (i := 100) (by decide +kernel)
theorem wd_103 : Cond.methodLink "TreeCoverForge$Label" 3 y_Object_init ∈ zz_tbl := zz_in (i := 103) (by decide +kernel) rfl
theorem wd_104 : Cond.fieldLink "TreeCoverForge$Label" 9 "TreeCoverForge$Label" "costs" "[J" ∈ zz_tbl := zz_in (i := 104) (by decide +kernel) rfl
theorem wd_105 : Cond.fieldLink "TreeCoverForge" 115 "TreeCoverForge$Label" "costs" "[J" ∈ zz_tbl := zz_in (i := 105) (by decide +kernel) rfl
theorem wd_106 : Cond.fieldLink "TreeCoverForge$Label" 15 "TreeCoverForge$Label" "choices" "[I" ∈ zz_tbl := zz_in (i := 106) (by decide +kernel) rfl
theorem wd_107 : Cond.fieldLink "TreeCoverForge$Code" 96 "TreeCoverForge$Label" "choices" "[I" ∈ zz_tbl := zz_in (i := 107) (by decide +kernel) rfl
theorem wd_108 : Cond.fieldLink "TreeCoverForge" 123 "TreeCoverForge$Label" "choices" "[I" ∈ zz_tbl := zz_in (i := 108) (by decide +kernel) rfl
theorem wd_115 : Cond.fieldLink "TreeCoverForge$Pile" 9 "TreeCoverForge$Pile" "ops" "[I" ∈ zz_tbl := zz_in (i := 115) (by decide +kernel) rfl
theorem wd_116 : Cond.fieldLink "TreeCoverForge$Code" 80 "TreeCoverForge$Pile" "ops" "[I" ∈ zz_tbl := zz_in (i := 116) (by decide +kernel) rfl
theorem wd_117 : Cond.fieldLink "TreeCoverForge$Pile" 15 "TreeCoverForge$Pile" "numbers" "[I" ∈ zz_tbl := zz_in (i := 117) (by decide +kernel) rfl
theorem wd_118 : Cond.fieldLink "TreeCoverForge$Code" 102 "TreeCoverForge$Pile" "numbers" "[I" ∈ zz_tbl := zz_in (i := 118) (by decide +kernel) rfl
theorem wd_119 : Cond.fieldLink "TreeCoverForge$Pile" 18 "TreeCoverForge$Pile" "sizes" "[I" ∈ zz_tbl := zz_in (i := 119) (by decide +kernel) rfl
theorem wd_120 : Cond.fieldLink "TreeCoverForge$Pile" 21 "TreeCoverForge$Pile" "heights" "[I" ∈ zz_tbl := zz_in (i := 120) (by decide +kernel) rfl
theorem wd_121 : Cond.fieldLink "TreeCoverForge$Pile" 24 "TreeCoverForge$Pile" "results" "[I" ∈ zz_tbl := zz_in (i := 121) (by decide +kernel) rfl
theorem wd_122 : Cond.fieldLink "TreeCoverForge$Pile" 29 "TreeCoverForge$Pile" "labels" "[LTreeCoverForge$Label;" ∈ zz_tbl := zz_in (i := 122) (by decide +kernel) rfl
theorem wd_123 : Cond.fieldLink "TreeCoverForge$Code" 92 "TreeCoverForge$Pile" "labels" "[LTreeCoverForge$Label;" ∈ zz_tbl := zz_in (i := 123) (by decide +kernel) rfl
theorem wd_124 : Cond.fieldLink "TreeCoverForge$Pile" 34 "TreeCoverForge$Pile" "noKid" "LTreeCoverForge$Label;" ∈ zz_tbl := zz_in (i := 124) (by decide +kernel) rfl
theorem wd_125 : Cond.fieldLink "TreeCoverForge$Pile" 42 "TreeCoverForge$Pile" "nodeCount" "I" ∈ zz_tbl := zz_in (i := 125) (by decide +kernel) rfl
theorem wd_126 : Cond.fieldLink "TreeCoverForge$Code" 65 "TreeCoverForge$Pile" "nodeCount" "I" ∈ zz_tbl := zz_in (i := 126) (by decide +kernel) rfl
theorem wd_127 : Cond.fieldLink "TreeCoverForge" 86 "TreeCoverForge$Pile" "nodeCount" "I" ∈ zz_tbl := zz_in (i := 127) (by decide +kernel) rfl
theorem wd_128 : Cond.fieldLink "TreeCoverForge$Pile" 38 "TreeCoverForge$Pile" "treeCount" "I" ∈ zz_tbl := zz_in (i := 128) (by decide +kernel) rfl
theorem wd_129 : Cond.fieldLink "TreeCoverForge" 80 "TreeCoverForge$Pile" "treeCount" "I" ∈ zz_tbl := zz_in (i := 129) (by decide +kernel) rfl
theorem wd_130 : Cond.fieldLink "TreeCoverForge$Pile" 65 "TreeCoverForge$Pile" "labelledCount" "I" ∈ zz_tbl := zz_in (i := 130) (by decide +kernel) rfl
theorem wd_131 : Cond.fieldLink "TreeCoverForge" 152 "TreeCoverForge$Pile" "labelledCount" "I" ∈ zz_tbl := zz_in (i := 131) (by decide +kernel) rfl
theorem wd_155 : Cond.methodLink "TreeCoverForge" 25 y_Table_init ∈ zz_tbl := zz_in (i := 155) (by decide +kernel) rfl
theorem wd_158 : Cond.methodLink "TreeCoverForge$StateTable" 3 y_Object_init ∈ zz_tbl := zz_in (i := 158) (by decide +kernel) rfl
theorem wd_160 : Cond.methodLinkNest "TreeCoverForge$StateTable" 17 y_Label_init "TreeCoverForge" ∈ lw_tbl := List.mem_of_getElem? (i := 160) (by decide +kernel)
theorem wd_161 : Cond.fieldLink "TreeCoverForge$StateTable" 11 "TreeCoverForge$StateTable" "found" "[LTreeCoverForge$Label;" ∈ zz_tbl := zz_in (i := 161) (by decide +kernel) rfl
theorem wd_162 : Cond.fieldLink "TreeCoverForge$StateTable" 18 "TreeCoverForge$StateTable" "noKid" "LTreeCoverForge$Label;" ∈ zz_tbl := zz_in (i := 162) (by decide +kernel) rfl
theorem wd_163 : Cond.fieldLink "TreeCoverForge$StateTable" 26 "TreeCoverForge$StateTable" "foundCount" "I" ∈ zz_tbl := zz_in (i := 163) (by decide +kernel) rfl
theorem wd_164 : Cond.fieldLink "TreeCoverForge$StateTable" 22 "TreeCoverForge$StateTable" "counted" "I" ∈ zz_tbl := zz_in (i := 164) (by decide +kernel) rfl
theorem wd_165 : Cond.fieldLink "TreeCoverForge" 70 "TreeCoverForge$StateTable" "counted" "I" ∈ zz_tbl := zz_in (i := 165) (by decide +kernel) rfl
theorem wd_177 : Cond.methodLinkNest "TreeCoverForge" 32 y_Code_init "TreeCoverForge" ∈ lw_tbl := List.mem_of_getElem? (i := 177) (by decide +kernel)
theorem wd_180 : Cond.methodLink "TreeCoverForge$Code" 3 y_Object_init ∈ zz_tbl := zz_in (i := 180) (by decide +kernel) rfl
theorem wd_181 : Cond.fieldLink "TreeCoverForge$Code" 9 "TreeCoverForge$Code" "rules" "[I" ∈ zz_tbl := zz_in (i := 181) (by decide +kernel) rfl
theorem wd_182 : Cond.fieldLink "TreeCoverForge$Code" 15 "TreeCoverForge$Code" "nodes" "[I" ∈ zz_tbl := zz_in (i := 182) (by decide +kernel) rfl
theorem wd_183 : Cond.fieldLink "TreeCoverForge$Code" 18 "TreeCoverForge$Code" "ops" "[I" ∈ zz_tbl := zz_in (i := 183) (by decide +kernel) rfl
theorem wd_184 : Cond.fieldLink "TreeCoverForge$Code" 21 "TreeCoverForge$Code" "numbers" "[I" ∈ zz_tbl := zz_in (i := 184) (by decide +kernel) rfl
theorem wd_185 : Cond.fieldLink "TreeCoverForge$Code" 24 "TreeCoverForge$Code" "firsts" "[I" ∈ zz_tbl := zz_in (i := 185) (by decide +kernel) rfl
theorem wd_186 : Cond.fieldLink "TreeCoverForge$Code" 27 "TreeCoverForge$Code" "seconds" "[I" ∈ zz_tbl := zz_in (i := 186) (by decide +kernel) rfl
theorem wd_187 : Cond.fieldLink "TreeCoverForge$Code" 30 "TreeCoverForge$Code" "lastUses" "[I" ∈ zz_tbl := zz_in (i := 187) (by decide +kernel) rfl
theorem wd_188 : Cond.fieldLink "TreeCoverForge$Code" 33 "TreeCoverForge$Code" "places" "[I" ∈ zz_tbl := zz_in (i := 188) (by decide +kernel) rfl
theorem wd_189 : Cond.fieldLink "TreeCoverForge$Code" 36 "TreeCoverForge$Code" "memory" "[I" ∈ zz_tbl := zz_in (i := 189) (by decide +kernel) rfl
theorem wd_190 : Cond.fieldLink "TreeCoverForge$Code" 39 "TreeCoverForge$Code" "holders" "[I" ∈ zz_tbl := zz_in (i := 190) (by decide +kernel) rfl
theorem wd_191 : Cond.fieldLink "TreeCoverForge$Code" 42 "TreeCoverForge$Code" "kinds" "[I" ∈ zz_tbl := zz_in (i := 191) (by decide +kernel) rfl
theorem wd_192 : Cond.fieldLink "TreeCoverForge$Code" 45 "TreeCoverForge$Code" "latest" "[I" ∈ zz_tbl := zz_in (i := 192) (by decide +kernel) rfl
theorem wd_193 : Cond.fieldLink "TreeCoverForge$Code" 48 "TreeCoverForge$Code" "path" "[I" ∈ zz_tbl := zz_in (i := 193) (by decide +kernel) rfl
theorem wd_194 : Cond.fieldLink "TreeCoverForge$Code" 51 "TreeCoverForge$Code" "count" "I" ∈ zz_tbl := zz_in (i := 194) (by decide +kernel) rfl
theorem wd_195 : Cond.fieldLink "TreeCoverForge" 134 "TreeCoverForge$Code" "count" "I" ∈ zz_tbl := zz_in (i := 195) (by decide +kernel) rfl
theorem wd_196 : Cond.fieldLink "TreeCoverForge$Code" 103 "TreeCoverForge$Code" "slotCount" "I" ∈ zz_tbl := zz_in (i := 196) (by decide +kernel) rfl
theorem wd_197 : Cond.fieldLink "TreeCoverForge" 139 "TreeCoverForge$Code" "slotCount" "I" ∈ zz_tbl := zz_in (i := 197) (by decide +kernel) rfl
theorem wd_229 : Cond.fieldLink "TreeCoverForge" 12 "TreeCoverForge" "book" "LTreeCoverForge$RuleBook;" ∈ zz_tbl := zz_in (i := 229) (by decide +kernel) rfl
theorem wd_230 : Cond.fieldLink "TreeCoverForge" 19 "TreeCoverForge" "pile" "LTreeCoverForge$Pile;" ∈ zz_tbl := zz_in (i := 230) (by decide +kernel) rfl
theorem wd_231 : Cond.fieldLink "TreeCoverForge" 26 "TreeCoverForge" "table" "LTreeCoverForge$StateTable;" ∈ zz_tbl := zz_in (i := 231) (by decide +kernel) rfl
theorem wd_232 : Cond.fieldLink "TreeCoverForge" 33 "TreeCoverForge" "code" "LTreeCoverForge$Code;" ∈ zz_tbl := zz_in (i := 232) (by decide +kernel) rfl
theorem wd_233 : Cond.fieldLink "TreeCoverForge" 37 "TreeCoverForge" "variables" "[I" ∈ zz_tbl := zz_in (i := 233) (by decide +kernel) rfl
theorem wd_234 : Cond.fieldLink "TreeCoverForge" 41 "TreeCoverForge" "registerCount" "I" ∈ zz_tbl := zz_in (i := 234) (by decide +kernel) rfl
theorem wd_248 : Cond.methodLink "TreeCoverForgeLaw" 13 y_Forge_rule ∈ zz_tbl := zz_in (i := 248) (by decide +kernel) rfl
theorem wd_252 : Cond.methodLink "TreeCoverForge" 45 y_Forge_isKind ∈ zz_tbl := zz_in (i := 252) (by decide +kernel) rfl
theorem wd_255 : Cond.methodLink "TreeCoverForge" 49 y_Forge_fitsOperator ∈ zz_tbl := zz_in (i := 255) (by decide +kernel) rfl
theorem wd_258 : Cond.fieldLink "TreeCoverForge" 83 "TreeCoverForge" "ARITIES" "[I" ∈ zz_tbl := zz_in (i := 258) (by decide +kernel) rfl
theorem wd_260 : Cond.methodLink "TreeCoverForge" 53 y_Forge_isCostFor ∈ zz_tbl := zz_in (i := 260) (by decide +kernel) rfl
theorem wd_263 : Cond.methodLink "TreeCoverForge" 60 y_Forge_forgetConclusions ∈ zz_tbl := zz_in (i := 263) (by decide +kernel) rfl
theorem wd_267 : Cond.methodLink "TreeCoverForge" 63 y_Book_add ∈ zz_tbl := zz_in (i := 267) (by decide +kernel) rfl
theorem wd_271 : Cond.methodLink "TreeCoverForgeLaw" 18 y_Forge_clear ∈ zz_tbl := zz_in (i := 271) (by decide +kernel) rfl
theorem wd_275 : Cond.methodLink "TreeCoverForge" 67 y_Book_removeAll ∈ zz_tbl := zz_in (i := 275) (by decide +kernel) rfl
theorem wd_279 : Cond.methodLink "TreeCoverForge$RuleBook" 39 y_Arrays_fillI ∈ zz_tbl := zz_in (i := 279) (by decide +kernel) rfl
theorem wd_282 : Cond.methodLink "TreeCoverForgeLaw" 22 y_Forge_states ∈ zz_tbl := zz_in (i := 282) (by decide +kernel) rfl
theorem wd_286 : Cond.methodLink "TreeCoverForge" 73 y_Table_findAll ∈ zz_tbl := zz_in (i := 286) (by decide +kernel) rfl
theorem wd_290 : Cond.methodLink "TreeCoverForge$StateTable" 29 y_Table_look ∈ zz_tbl := zz_in (i := 290) (by decide +kernel) rfl
theorem wd_294 : Cond.methodLink "TreeCoverForge$StateTable" 37 y_Label_derive ∈ zz_tbl := zz_in (i := 294) (by decide +kernel) rfl
theorem wd_298 : Cond.constantLong "TreeCoverForge$Label" 19 (-1) ∈ zz_tbl := zz_in (i := 298) (by decide +kernel) rfl
theorem wd_299 : Cond.methodLink "TreeCoverForge$Label" 21 y_Arrays_fillJ ∈ zz_tbl := zz_in (i := 299) (by decide +kernel) rfl
theorem wd_302 : Cond.methodLink "TreeCoverForge$Label" 27 y_Arrays_fillI ∈ zz_tbl := zz_in (i := 302) (by decide +kernel) rfl
theorem wd_303 : Cond.methodLink "TreeCoverForge$Label" 45 y_Label_isCovered ∈ zz_tbl := zz_in (i := 303) (by decide +kernel) rfl
theorem wd_307 : Cond.methodLink "TreeCoverForge$Label" 49 y_Label_offer ∈ zz_tbl := zz_in (i := 307) (by decide +kernel) rfl
theorem wd_311 : Cond.methodLink "TreeCoverForge$Label" 53 y_Label_applyChains ∈ zz_tbl := zz_in (i := 311) (by decide +kernel) rfl
theorem wd_315 : Cond.methodLink "TreeCoverForge$StateTable" 40 y_Label_makeRelative ∈ zz_tbl := zz_in (i := 315) (by decide +kernel) rfl
theorem wd_319 : Cond.methodLink "TreeCoverForge$Label" 62 y_Label_leastCost ∈ zz_tbl := zz_in (i := 319) (by decide +kernel) rfl
theorem wd_323 : Cond.methodLink "TreeCoverForge$StateTable" 43 y_Label_agreesWith ∈ zz_tbl := zz_in (i := 323) (by decide +kernel) rfl
theorem wd_327 : Cond.methodLink "TreeCoverForge$StateTable" 33 y_Table_lookAtPair ∈ zz_tbl := zz_in (i := 327) (by decide +kernel) rfl
theorem wd_331 : Cond.methodLink "TreeCoverForgeLaw" 27 y_Forge_push ∈ zz_tbl := zz_in (i := 331) (by decide +kernel) rfl
theorem wd_335 : Cond.methodLink "TreeCoverForge" 77 y_Forge_isNumberFor ∈ zz_tbl := zz_in (i := 335) (by decide +kernel) rfl
theorem wd_338 : Cond.methodLink "TreeCoverForge" 142 y_Forge_isVariable ∈ zz_tbl := zz_in (i := 338) (by decide +kernel) rfl
theorem wd_341 : Cond.methodLink "TreeCoverForge" 89 y_Pile_heightOfNew ∈ zz_tbl := zz_in (i := 341) (by decide +kernel) rfl
theorem wd_345 : Cond.fieldLinkNest "TreeCoverForge$Pile" 49 "TreeCoverForge" "ARITIES" "[I" "TreeCoverForge" ∈ lw_tbl := List.mem_of_getElem? (i := 345) (by decide +kernel)
theorem wd_346 : Cond.methodLink "TreeCoverForge$Pile" 52 y_Pile_firstKid ∈ zz_tbl := zz_in (i := 346) (by decide +kernel) rfl
theorem wd_350 : Cond.methodLink "TreeCoverForge$Pile" 56 y_Math_max ∈ zz_tbl := zz_in (i := 350) (by decide +kernel) rfl
theorem wd_353 : Cond.methodLink "TreeCoverForge" 93 y_Pile_add ∈ zz_tbl := zz_in (i := 353) (by decide +kernel) rfl
theorem wd_357 : Cond.methodLink "TreeCoverForge$Pile" 61 y_Pile_heightOfNew ∈ zz_tbl := zz_in (i := 357) (by decide +kernel) rfl
theorem wd_358 : Cond.methodLink "TreeCoverForgeLaw" 32 y_Forge_pop ∈ zz_tbl := zz_in (i := 358) (by decide +kernel) rfl
theorem wd_362 : Cond.methodLink "TreeCoverForge" 96 y_Pile_removeTop ∈ zz_tbl := zz_in (i := 362) (by decide +kernel) rfl
theorem wd_366 : Cond.methodLink "TreeCoverForge$Pile" 45 y_Pile_topSize ∈ zz_tbl := zz_in (i := 366) (by decide +kernel) rfl
theorem wd_370 : Cond.methodLink "TreeCoverForge$Pile" 68 y_Math_min ∈ zz_tbl := zz_in (i := 370) (by decide +kernel) rfl
theorem wd_373 : Cond.methodLink "TreeCoverForgeLaw" 37 y_Forge_trees ∈ zz_tbl := zz_in (i := 373) (by decide +kernel) rfl
theorem wd_377 : Cond.methodLink "TreeCoverForgeLaw" 41 y_Forge_nodes ∈ zz_tbl := zz_in (i := 377) (by decide +kernel) rfl
theorem wd_381 : Cond.methodLink "TreeCoverForge" 99 y_Pile_topSize ∈ zz_tbl := zz_in (i := 381) (by decide +kernel) rfl
theorem wd_382 : Cond.methodLink "TreeCoverForgeLaw" 45 y_Forge_relative ∈ zz_tbl := zz_in (i := 382) (by decide +kernel) rfl
theorem wd_386 : Cond.methodLink "TreeCoverForge" 103 y_Forge_isTopNode ∈ zz_tbl := zz_in (i := 386) (by decide +kernel) rfl
theorem wd_390 : Cond.methodLink "TreeCoverForge" 106 y_Pile_labelOf ∈ zz_tbl := zz_in (i := 390) (by decide +kernel) rfl
theorem wd_394 : Cond.methodLink "TreeCoverForge$Pile" 71 y_Label_derive ∈ zz_tbl := zz_in (i := 394) (by decide +kernel) rfl
theorem wd_395 : Cond.methodLink "TreeCoverForge$Pile" 75 y_Pile_topStart ∈ zz_tbl := zz_in (i := 395) (by decide +kernel) rfl
theorem wd_399 : Cond.methodLink "TreeCoverForge" 110 y_Label_isCovered ∈ zz_tbl := zz_in (i := 399) (by decide +kernel) rfl
theorem wd_400 : Cond.methodLink "TreeCoverForge" 119 y_Label_leastCost ∈ zz_tbl := zz_in (i := 400) (by decide +kernel) rfl
theorem wd_401 : Cond.methodLink "TreeCoverForgeLaw" 49 y_Forge_choice ∈ zz_tbl := zz_in (i := 401) (by decide +kernel) rfl
theorem wd_405 : Cond.methodLink "TreeCoverForgeLaw" 53 y_Forge_cost ∈ zz_tbl := zz_in (i := 405) (by decide +kernel) rfl
theorem wd_409 : Cond.methodLink "TreeCoverForgeLaw" 58 y_Forge_registers ∈ zz_tbl := zz_in (i := 409) (by decide +kernel) rfl
theorem wd_413 : Cond.methodLink "TreeCoverForgeLaw" 63 y_Forge_cover ∈ zz_tbl := zz_in (i := 413) (by decide +kernel) rfl
theorem wd_417 : Cond.methodLink "TreeCoverForge" 126 y_Code_write ∈ zz_tbl := zz_in (i := 417) (by decide +kernel) rfl
theorem wd_421 : Cond.methodLink "TreeCoverForge$Code" 55 y_Code_chooseKinds ∈ zz_tbl := zz_in (i := 421) (by decide +kernel) rfl
theorem wd_425 : Cond.methodLink "TreeCoverForge$Code" 59 y_Pile_topStart ∈ zz_tbl := zz_in (i := 425) (by decide +kernel) rfl
theorem wd_426 : Cond.methodLink "TreeCoverForge$Code" 68 y_Code_followChoices ∈ zz_tbl := zz_in (i := 426) (by decide +kernel) rfl
theorem wd_430 : Cond.fieldLinkNest "TreeCoverForge$Code" 81 "TreeCoverForge" "ARITIES" "[I" "TreeCoverForge" ∈ lw_tbl := List.mem_of_getElem? (i := 430) (by decide +kernel)
theorem wd_431 : Cond.methodLink "TreeCoverForge$Code" 84 y_Pile_firstKid ∈ zz_tbl := zz_in (i := 431) (by decide +kernel) rfl
theorem wd_432 : Cond.methodLink "TreeCoverForge$Code" 72 y_Code_writeOperator ∈ zz_tbl := zz_in (i := 432) (by decide +kernel) rfl
theorem wd_436 : Cond.methodLink "TreeCoverForge$Code" 76 y_Code_append ∈ zz_tbl := zz_in (i := 436) (by decide +kernel) rfl
theorem wd_440 : Cond.methodLink "TreeCoverForge" 130 y_Code_givePlaces ∈ zz_tbl := zz_in (i := 440) (by decide +kernel) rfl
theorem wd_444 : Cond.methodLink "TreeCoverForge$Code" 106 y_Arrays_fillI ∈ zz_tbl := zz_in (i := 444) (by decide +kernel) rfl
theorem wd_445 : Cond.methodLink "TreeCoverForge$Code" 112 y_Code_releaseUntil ∈ zz_tbl := zz_in (i := 445) (by decide +kernel) rfl
theorem wd_449 : Cond.methodLink "TreeCoverForge$Code" 116 y_Code_leastFree ∈ zz_tbl := zz_in (i := 449) (by decide +kernel) rfl
theorem wd_453 : Cond.methodLink "TreeCoverForge$Code" 120 y_Code_spillFor ∈ zz_tbl := zz_in (i := 453) (by decide +kernel) rfl
theorem wd_457 : Cond.methodLink "TreeCoverForge$Code" 123 y_Code_isNeededLonger ∈ zz_tbl := zz_in (i := 457) (by decide +kernel) rfl
theorem wd_461 : Cond.methodLink "TreeCoverForgeLaw" 67 y_Forge_instruction ∈ zz_tbl := zz_in (i := 461) (by decide +kernel) rfl
theorem wd_465 : Cond.methodLink "TreeCoverForge" 135 y_Code_tell ∈ zz_tbl := zz_in (i := 465) (by decide +kernel) rfl
theorem wd_469 : Cond.methodLink "TreeCoverForge$Code" 127 y_Code_placeOf ∈ zz_tbl := zz_in (i := 469) (by decide +kernel) rfl
theorem wd_473 : Cond.methodLink "TreeCoverForgeLaw" 71 y_Forge_slots ∈ zz_tbl := zz_in (i := 473) (by decide +kernel) rfl
theorem wd_477 : Cond.methodLink "TreeCoverForgeLaw" 75 y_Forge_set ∈ zz_tbl := zz_in (i := 477) (by decide +kernel) rfl
theorem wd_481 : Cond.methodLink "TreeCoverForgeLaw" 80 y_Forge_run ∈ zz_tbl := zz_in (i := 481) (by decide +kernel) rfl
theorem wd_485 : Cond.methodLink "TreeCoverForge" 145 y_Code_execute ∈ zz_tbl := zz_in (i := 485) (by decide +kernel) rfl
theorem wd_489 : Cond.methodLinkNest "TreeCoverForge$Code" 130 y_Forge_resultOf "TreeCoverForge" ∈ lw_tbl := List.mem_of_getElem? (i := 489) (by decide +kernel)
theorem wd_492 : Cond.methodLink "TreeCoverForgeLaw" 84 y_Forge_value ∈ zz_tbl := zz_in (i := 492) (by decide +kernel) rfl
theorem wd_496 : Cond.methodLink "TreeCoverForge" 149 y_Pile_evaluateTop ∈ zz_tbl := zz_in (i := 496) (by decide +kernel) rfl
theorem wd_500 : Cond.methodLinkNest "TreeCoverForge$Pile" 78 y_Forge_resultOf "TreeCoverForge" ∈ lw_tbl := List.mem_of_getElem? (i := 500) (by decide +kernel)
theorem wd_503 : Cond.methodLink "TreeCoverForgeLaw" 12 y_Model_init ∈ zz_tbl := zz_in (i := 503) (by decide +kernel) rfl
theorem wd_506 : Cond.methodLink "TreeCoverForgeModel" 1 y_Object_init ∈ zz_tbl := zz_in (i := 506) (by decide +kernel) rfl
theorem wd_507 : Cond.fieldLink "TreeCoverForgeModel" 115 "TreeCoverForgeModel" "rules" "I" ∈ zz_tbl := zz_in (i := 507) (by decide +kernel) rfl
theorem wd_508 : Cond.fieldLink "TreeCoverForgeModel" 7 "TreeCoverForgeModel" "makes" "[I" ∈ zz_tbl := zz_in (i := 508) (by decide +kernel) rfl
theorem wd_509 : Cond.fieldLink "TreeCoverForgeModel" 13 "TreeCoverForgeModel" "operator" "[I" ∈ zz_tbl := zz_in (i := 509) (by decide +kernel) rfl
theorem wd_510 : Cond.fieldLink "TreeCoverForgeModel" 16 "TreeCoverForgeModel" "first" "[I" ∈ zz_tbl := zz_in (i := 510) (by decide +kernel) rfl
theorem wd_511 : Cond.fieldLink "TreeCoverForgeModel" 19 "TreeCoverForgeModel" "second" "[I" ∈ zz_tbl := zz_in (i := 511) (by decide +kernel) rfl
theorem wd_512 : Cond.fieldLink "TreeCoverForgeModel" 22 "TreeCoverForgeModel" "price" "[I" ∈ zz_tbl := zz_in (i := 512) (by decide +kernel) rfl
theorem wd_513 : Cond.fieldLink "TreeCoverForgeModel" 131 "TreeCoverForgeModel" "total" "I" ∈ zz_tbl := zz_in (i := 513) (by decide +kernel) rfl
theorem wd_514 : Cond.fieldLink "TreeCoverForgeModel" 25 "TreeCoverForgeModel" "op" "[I" ∈ zz_tbl := zz_in (i := 514) (by decide +kernel) rfl
theorem wd_515 : Cond.fieldLink "TreeCoverForgeModel" 28 "TreeCoverForgeModel" "number" "[I" ∈ zz_tbl := zz_in (i := 515) (by decide +kernel) rfl
theorem wd_516 : Cond.fieldLink "TreeCoverForgeModel" 31 "TreeCoverForgeModel" "size" "[I" ∈ zz_tbl := zz_in (i := 516) (by decide +kernel) rfl
theorem wd_517 : Cond.fieldLink "TreeCoverForgeModel" 34 "TreeCoverForgeModel" "height" "[I" ∈ zz_tbl := zz_in (i := 517) (by decide +kernel) rfl
theorem wd_518 : Cond.fieldLink "TreeCoverForgeModel" 128 "TreeCoverForgeModel" "many" "I" ∈ zz_tbl := zz_in (i := 518) (by decide +kernel) rfl
theorem wd_519 : Cond.fieldLink "TreeCoverForgeModel" 37 "TreeCoverForgeModel" "start" "[I" ∈ zz_tbl := zz_in (i := 519) (by decide +kernel) rfl
theorem wd_520 : Cond.fieldLink "TreeCoverForgeModel" 40 "TreeCoverForgeModel" "least" "[J" ∈ zz_tbl := zz_in (i := 520) (by decide +kernel) rfl
theorem wd_521 : Cond.fieldLink "TreeCoverForgeModel" 44 "TreeCoverForgeModel" "chosen" "[I" ∈ zz_tbl := zz_in (i := 521) (by decide +kernel) rfl
theorem wd_522 : Cond.fieldLink "TreeCoverForgeModel" 47 "TreeCoverForgeModel" "left" "[J" ∈ zz_tbl := zz_in (i := 522) (by decide +kernel) rfl
theorem wd_523 : Cond.fieldLink "TreeCoverForgeModel" 50 "TreeCoverForgeModel" "right" "[J" ∈ zz_tbl := zz_in (i := 523) (by decide +kernel) rfl
theorem wd_524 : Cond.fieldLink "TreeCoverForgeModel" 53 "TreeCoverForgeModel" "got" "[J" ∈ zz_tbl := zz_in (i := 524) (by decide +kernel) rfl
theorem wd_525 : Cond.fieldLink "TreeCoverForgeModel" 56 "TreeCoverForgeModel" "pick" "[I" ∈ zz_tbl := zz_in (i := 525) (by decide +kernel) rfl
theorem wd_526 : Cond.fieldLink "TreeCoverForgeModel" 145 "TreeCoverForgeModel" "stateCount" "I" ∈ zz_tbl := zz_in (i := 526) (by decide +kernel) rfl
theorem wd_527 : Cond.fieldLink "TreeCoverForgeModel" 59 "TreeCoverForgeModel" "stateCost" "[J" ∈ zz_tbl := zz_in (i := 527) (by decide +kernel) rfl
theorem wd_528 : Cond.fieldLink "TreeCoverForgeModel" 62 "TreeCoverForgeModel" "statePick" "[I" ∈ zz_tbl := zz_in (i := 528) (by decide +kernel) rfl
theorem wd_529 : Cond.fieldLink "TreeCoverForgeModel" 166 "TreeCoverForgeModel" "length" "I" ∈ zz_tbl := zz_in (i := 529) (by decide +kernel) rfl
theorem wd_530 : Cond.fieldLink "TreeCoverForgeModel" 176 "TreeCoverForgeModel" "slotCount" "I" ∈ zz_tbl := zz_in (i := 530) (by decide +kernel) rfl
theorem wd_531 : Cond.fieldLink "TreeCoverForgeModel" 65 "TreeCoverForgeModel" "registers" "I" ∈ zz_tbl := zz_in (i := 531) (by decide +kernel) rfl
theorem wd_532 : Cond.fieldLink "TreeCoverForgeModel" 69 "TreeCoverForgeModel" "codeRule" "[I" ∈ zz_tbl := zz_in (i := 532) (by decide +kernel) rfl
theorem wd_533 : Cond.fieldLink "TreeCoverForgeModel" 72 "TreeCoverForgeModel" "codeNode" "[I" ∈ zz_tbl := zz_in (i := 533) (by decide +kernel) rfl
theorem wd_534 : Cond.fieldLink "TreeCoverForgeModel" 75 "TreeCoverForgeModel" "codeOp" "[I" ∈ zz_tbl := zz_in (i := 534) (by decide +kernel) rfl
theorem wd_535 : Cond.fieldLink "TreeCoverForgeModel" 78 "TreeCoverForgeModel" "codeNumber" "[I" ∈ zz_tbl := zz_in (i := 535) (by decide +kernel) rfl
theorem wd_536 : Cond.fieldLink "TreeCoverForgeModel" 81 "TreeCoverForgeModel" "sourceA" "[I" ∈ zz_tbl := zz_in (i := 536) (by decide +kernel) rfl
theorem wd_537 : Cond.fieldLink "TreeCoverForgeModel" 84 "TreeCoverForgeModel" "sourceB" "[I" ∈ zz_tbl := zz_in (i := 537) (by decide +kernel) rfl
theorem wd_538 : Cond.fieldLink "TreeCoverForgeModel" 87 "TreeCoverForgeModel" "until" "[I" ∈ zz_tbl := zz_in (i := 538) (by decide +kernel) rfl
theorem wd_539 : Cond.fieldLink "TreeCoverForgeModel" 90 "TreeCoverForgeModel" "place" "[I" ∈ zz_tbl := zz_in (i := 539) (by decide +kernel) rfl
theorem wd_540 : Cond.fieldLink "TreeCoverForgeModel" 93 "TreeCoverForgeModel" "result" "[I" ∈ zz_tbl := zz_in (i := 540) (by decide +kernel) rfl
theorem wd_541 : Cond.fieldLink "TreeCoverForgeModel" 96 "TreeCoverForgeModel" "wanted" "[I" ∈ zz_tbl := zz_in (i := 541) (by decide +kernel) rfl
theorem wd_542 : Cond.fieldLink "TreeCoverForgeModel" 99 "TreeCoverForgeModel" "latest" "[I" ∈ zz_tbl := zz_in (i := 542) (by decide +kernel) rfl
theorem wd_543 : Cond.fieldLink "TreeCoverForgeModel" 102 "TreeCoverForgeModel" "chain" "[I" ∈ zz_tbl := zz_in (i := 543) (by decide +kernel) rfl
theorem wd_544 : Cond.fieldLink "TreeCoverForgeModel" 105 "TreeCoverForgeModel" "variables" "[I" ∈ zz_tbl := zz_in (i := 544) (by decide +kernel) rfl
theorem wd_545 : Cond.fieldLink "TreeCoverForgeModel" 108 "TreeCoverForgeModel" "values" "[I" ∈ zz_tbl := zz_in (i := 545) (by decide +kernel) rfl
theorem wd_625 : Cond.methodLink "TreeCoverForgeLaw" 17 y_Model_rule ∈ zz_tbl := zz_in (i := 625) (by decide +kernel) rfl
theorem wd_629 : Cond.methodLink "TreeCoverForgeModel" 111 y_Model_outside ∈ zz_tbl := zz_in (i := 629) (by decide +kernel) rfl
theorem wd_632 : Cond.methodLink "TreeCoverForgeLaw" 21 y_Model_clear ∈ zz_tbl := zz_in (i := 632) (by decide +kernel) rfl
theorem wd_636 : Cond.methodLink "TreeCoverForgeLaw" 26 y_Model_states ∈ zz_tbl := zz_in (i := 636) (by decide +kernel) rfl
theorem wd_640 : Cond.methodLink "TreeCoverForgeModel" 138 y_Model_combine ∈ zz_tbl := zz_in (i := 640) (by decide +kernel) rfl
theorem wd_644 : Cond.constantLong "TreeCoverForgeModel" 118 1125899906842624 ∈ zz_tbl := zz_in (i := 644) (by decide +kernel) rfl
theorem wd_645 : Cond.methodLink "TreeCoverForgeModel" 124 y_Model_through ∈ zz_tbl := zz_in (i := 645) (by decide +kernel) rfl
theorem wd_649 : Cond.methodLink "TreeCoverForgeModel" 120 y_Model_kids ∈ zz_tbl := zz_in (i := 649) (by decide +kernel) rfl
theorem wd_652 : Cond.methodLink "TreeCoverForgeModel" 148 y_Model_known ∈ zz_tbl := zz_in (i := 652) (by decide +kernel) rfl
theorem wd_656 : Cond.methodLink "TreeCoverForgeModel" 141 y_Model_lowest ∈ zz_tbl := zz_in (i := 656) (by decide +kernel) rfl
theorem wd_660 : Cond.methodLink "TreeCoverForgeModel" 152 y_Model_reach ∈ zz_tbl := zz_in (i := 660) (by decide +kernel) rfl
theorem wd_664 : Cond.methodLink "TreeCoverForgeLaw" 31 y_Model_push ∈ zz_tbl := zz_in (i := 664) (by decide +kernel) rfl
theorem wd_668 : Cond.methodLink "TreeCoverForgeLaw" 36 y_Model_pop ∈ zz_tbl := zz_in (i := 668) (by decide +kernel) rfl
theorem wd_672 : Cond.methodLink "TreeCoverForgeLaw" 40 y_Model_trees ∈ zz_tbl := zz_in (i := 672) (by decide +kernel) rfl
theorem wd_676 : Cond.methodLink "TreeCoverForgeLaw" 44 y_Model_nodes ∈ zz_tbl := zz_in (i := 676) (by decide +kernel) rfl
theorem wd_680 : Cond.methodLink "TreeCoverForgeLaw" 48 y_Model_relative ∈ zz_tbl := zz_in (i := 680) (by decide +kernel) rfl
theorem wd_684 : Cond.methodLink "TreeCoverForgeModel" 163 y_Model_noNode ∈ zz_tbl := zz_in (i := 684) (by decide +kernel) rfl
theorem wd_688 : Cond.methodLink "TreeCoverForgeModel" 156 y_Model_nodes ∈ zz_tbl := zz_in (i := 688) (by decide +kernel) rfl
theorem wd_689 : Cond.methodLink "TreeCoverForgeModel" 160 y_Model_work ∈ zz_tbl := zz_in (i := 689) (by decide +kernel) rfl
theorem wd_693 : Cond.methodLink "TreeCoverForgeModel" 134 y_Model_takeKids ∈ zz_tbl := zz_in (i := 693) (by decide +kernel) rfl
theorem wd_697 : Cond.methodLink "TreeCoverForgeLaw" 52 y_Model_choice ∈ zz_tbl := zz_in (i := 697) (by decide +kernel) rfl
theorem wd_701 : Cond.methodLink "TreeCoverForgeLaw" 57 y_Model_cost ∈ zz_tbl := zz_in (i := 701) (by decide +kernel) rfl
theorem wd_705 : Cond.methodLink "TreeCoverForgeLaw" 62 y_Model_registers ∈ zz_tbl := zz_in (i := 705) (by decide +kernel) rfl
theorem wd_709 : Cond.methodLink "TreeCoverForgeLaw" 66 y_Model_cover ∈ zz_tbl := zz_in (i := 709) (by decide +kernel) rfl
theorem wd_713 : Cond.methodLink "TreeCoverForgeModel" 179 y_Model_want ∈ zz_tbl := zz_in (i := 713) (by decide +kernel) rfl
theorem wd_717 : Cond.methodLink "TreeCoverForgeModel" 182 y_Model_emit ∈ zz_tbl := zz_in (i := 717) (by decide +kernel) rfl
theorem wd_721 : Cond.methodLink "TreeCoverForgeModel" 169 y_Model_write ∈ zz_tbl := zz_in (i := 721) (by decide +kernel) rfl
theorem wd_725 : Cond.methodLink "TreeCoverForgeModel" 186 y_Model_settle ∈ zz_tbl := zz_in (i := 725) (by decide +kernel) rfl
theorem wd_729 : Cond.methodLink "TreeCoverForgeModel" 173 y_Model_holds ∈ zz_tbl := zz_in (i := 729) (by decide +kernel) rfl
theorem wd_733 : Cond.methodLink "TreeCoverForgeLaw" 70 y_Model_instruction ∈ zz_tbl := zz_in (i := 733) (by decide +kernel) rfl
theorem wd_737 : Cond.methodLink "TreeCoverForgeLaw" 74 y_Model_slots ∈ zz_tbl := zz_in (i := 737) (by decide +kernel) rfl
theorem wd_741 : Cond.methodLink "TreeCoverForgeLaw" 79 y_Model_set ∈ zz_tbl := zz_in (i := 741) (by decide +kernel) rfl
theorem wd_745 : Cond.methodLink "TreeCoverForgeLaw" 83 y_Model_run ∈ zz_tbl := zz_in (i := 745) (by decide +kernel) rfl
theorem wd_749 : Cond.methodLink "TreeCoverForgeModel" 189 y_Model_calculate ∈ zz_tbl := zz_in (i := 749) (by decide +kernel) rfl
theorem wd_753 : Cond.methodLink "TreeCoverForgeLaw" 87 y_Model_value ∈ zz_tbl := zz_in (i := 753) (by decide +kernel) rfl
theorem k_Forge_rule : zz_Y1 y_Forge_rule b_Forge_rule 6 (some .int) 5 := ⟨zz_in (i := 251) (by decide +kernel) rfl, zz_in (i := 30) (by decide +kernel) rfl, zz_in (i := 249) (by decide +kernel) rfl, zz_in (i := 250) (by decide +kernel) rfl, ⟨by decide, by decide, by decide +kernel⟩⟩
theorem k_Forge_isKind : zz_Y0 y_Forge_isKind b_Forge_isKind 1 (some .boolean) 1 := ⟨zz_in (i := 254) (by decide +kernel) rfl, zz_in (i := 30) (by decide +kernel) rfl, zz_in (i := 253) (by decide +kernel) rfl, ⟨by decide, by decide, by decide +kernel⟩⟩
theorem k_Forge_fitsOperator : zz_Y0 y_Forge_fitsOperator b_Forge_fitsOperator 4 (some .boolean) 4 := ⟨zz_in (i := 257) (by decide +kernel) rfl, zz_in (i := 30) (by decide +kernel) rfl, zz_in (i := 256) (by decide +kernel) rfl, ⟨by decide, by decide, by decide +kernel⟩⟩
theorem k_Forge_isCostFor : zz_Y0 y_Forge_isCostFor b_Forge_isCostFor 2 (some .boolean) 2 := ⟨zz_in (i := 262) (by decide +kernel) rfl, zz_in (i := 30) (by decide +kernel) rfl, zz_in (i := 261) (by decide +kernel) rfl, ⟨by decide, by decide, by decide +kernel⟩⟩
theorem k_Forge_forgetConclusions : zz_Y1 y_Forge_forgetConclusions b_Forge_forgetConclusions 1 none 0 := ⟨zz_in (i := 266) (by decide +kernel) rfl, zz_in (i := 30) (by decide +kernel) rfl, zz_in (i := 265) (by decide +kernel) rfl, zz_in (i := 0) (by decide +kernel) rfl, ⟨by decide, by decide, by decide +kernel⟩⟩
theorem k_Book_add : zz_Y1 y_Book_add b_Book_add 7 (some .int) 5 := ⟨zz_in (i := 270) (by decide +kernel) rfl, zz_in (i := 31) (by decide +kernel) rfl, zz_in (i := 268) (by decide +kernel) rfl, zz_in (i := 269) (by decide +kernel) rfl, ⟨by decide, by decide, by decide +kernel⟩⟩
theorem k_Forge_clear : zz_Y1 y_Forge_clear b_Forge_clear 1 none 0 := ⟨zz_in (i := 274) (by decide +kernel) rfl, zz_in (i := 30) (by decide +kernel) rfl, zz_in (i := 272) (by decide +kernel) rfl, zz_in (i := 273) (by decide +kernel) rfl, ⟨by decide, by decide, by decide +kernel⟩⟩
theorem k_Book_removeAll : zz_Y1 y_Book_removeAll b_Book_removeAll 1 none 0 := ⟨zz_in (i := 278) (by decide +kernel) rfl, zz_in (i := 31) (by decide +kernel) rfl, zz_in (i := 276) (by decide +kernel) rfl, zz_in (i := 277) (by decide +kernel) rfl, ⟨by decide, by decide, by decide +kernel⟩⟩
theorem k_Arrays_fillI : zz_Y0 y_Arrays_fillI b_Arrays_fillI 4 none 2 := ⟨zz_in (i := 281) (by decide +kernel) rfl, zz_in (i := 37) (by decide +kernel) rfl, zz_in (i := 280) (by decide +kernel) rfl, ⟨by decide, by decide, by decide +kernel⟩⟩
theorem k_Forge_states : zz_Y1 y_Forge_states b_Forge_states 1 (some .int) 0 := ⟨zz_in (i := 285) (by decide +kernel) rfl, zz_in (i := 30) (by decide +kernel) rfl, zz_in (i := 283) (by decide +kernel) rfl, zz_in (i := 284) (by decide +kernel) rfl, ⟨by decide, by decide, by decide +kernel⟩⟩
theorem k_Table_findAll : zz_Y1 y_Table_findAll b_Table_findAll 4 none 1 := ⟨zz_in (i := 289) (by decide +kernel) rfl, zz_in (i := 34) (by decide +kernel) rfl, zz_in (i := 287) (by decide +kernel) rfl, zz_in (i := 288) (by decide +kernel) rfl, ⟨by decide, by decide, by decide +kernel⟩⟩
theorem k_Table_look : zz_Y1 y_Table_look b_Table_look 7 none 4 := ⟨zz_in (i := 293) (by decide +kernel) rfl, zz_in (i := 34) (by decide +kernel) rfl, zz_in (i := 292) (by decide +kernel) rfl, zz_in (i := 1) (by decide +kernel) rfl, ⟨by decide, by decide, by decide +kernel⟩⟩
theorem k_Label_derive : zz_Y1 y_Label_derive b_Label_derive 10 none 4 := ⟨zz_in (i := 297) (by decide +kernel) rfl, zz_in (i := 33) (by decide +kernel) rfl, zz_in (i := 295) (by decide +kernel) rfl, zz_in (i := 296) (by decide +kernel) rfl, ⟨by decide, by decide, by decide +kernel⟩⟩
theorem k_Arrays_fillJ : zz_Y0 y_Arrays_fillJ b_Arrays_fillJ 5 none 2 := ⟨zz_in (i := 301) (by decide +kernel) rfl, zz_in (i := 37) (by decide +kernel) rfl, zz_in (i := 300) (by decide +kernel) rfl, ⟨by decide, by decide, by decide +kernel⟩⟩
theorem k_Label_isCovered : zz_Y1 y_Label_isCovered b_Label_isCovered 2 (some .boolean) 1 := ⟨zz_in (i := 306) (by decide +kernel) rfl, zz_in (i := 33) (by decide +kernel) rfl, zz_in (i := 304) (by decide +kernel) rfl, zz_in (i := 305) (by decide +kernel) rfl, ⟨by decide, by decide, by decide +kernel⟩⟩
theorem k_Label_offer : zz_Y1 y_Label_offer b_Label_offer 9 (some .boolean) 3 := ⟨zz_in (i := 310) (by decide +kernel) rfl, zz_in (i := 33) (by decide +kernel) rfl, zz_in (i := 309) (by decide +kernel) rfl, zz_in (i := 2) (by decide +kernel) rfl, ⟨by decide, by decide, by decide +kernel⟩⟩
theorem k_Label_applyChains : zz_Y1 y_Label_applyChains b_Label_applyChains 8 none 1 := ⟨zz_in (i := 314) (by decide +kernel) rfl, zz_in (i := 33) (by decide +kernel) rfl, zz_in (i := 313) (by decide +kernel) rfl, zz_in (i := 3) (by decide +kernel) rfl, ⟨by decide, by decide, by decide +kernel⟩⟩
theorem k_Label_makeRelative : zz_Y1 y_Label_makeRelative b_Label_makeRelative 4 none 0 := ⟨zz_in (i := 318) (by decide +kernel) rfl, zz_in (i := 33) (by decide +kernel) rfl, zz_in (i := 316) (by decide +kernel) rfl, zz_in (i := 317) (by decide +kernel) rfl, ⟨by decide, by decide, by decide +kernel⟩⟩
theorem k_Label_leastCost : zz_Y1 y_Label_leastCost b_Label_leastCost 4 (some .long) 0 := ⟨zz_in (i := 322) (by decide +kernel) rfl, zz_in (i := 33) (by decide +kernel) rfl, zz_in (i := 320) (by decide +kernel) rfl, zz_in (i := 321) (by decide +kernel) rfl, ⟨by decide, by decide, by decide +kernel⟩⟩
theorem k_Label_agreesWith : zz_Y1 y_Label_agreesWith b_Label_agreesWith 3 (some .boolean) 1 := ⟨zz_in (i := 326) (by decide +kernel) rfl, zz_in (i := 33) (by decide +kernel) rfl, zz_in (i := 324) (by decide +kernel) rfl, zz_in (i := 325) (by decide +kernel) rfl, ⟨by decide, by decide, by decide +kernel⟩⟩
theorem k_Table_lookAtPair : zz_Y1 y_Table_lookAtPair b_Table_lookAtPair 5 none 3 := ⟨zz_in (i := 330) (by decide +kernel) rfl, zz_in (i := 34) (by decide +kernel) rfl, zz_in (i := 329) (by decide +kernel) rfl, zz_in (i := 4) (by decide +kernel) rfl, ⟨by decide, by decide, by decide +kernel⟩⟩
theorem k_Forge_push : zz_Y1 y_Forge_push b_Forge_push 3 (some .int) 2 := ⟨zz_in (i := 334) (by decide +kernel) rfl, zz_in (i := 30) (by decide +kernel) rfl, zz_in (i := 332) (by decide +kernel) rfl, zz_in (i := 333) (by decide +kernel) rfl, ⟨by decide, by decide, by decide +kernel⟩⟩
theorem k_Forge_isNumberFor : zz_Y0 y_Forge_isNumberFor b_Forge_isNumberFor 2 (some .boolean) 2 := ⟨zz_in (i := 337) (by decide +kernel) rfl, zz_in (i := 30) (by decide +kernel) rfl, zz_in (i := 336) (by decide +kernel) rfl, ⟨by decide, by decide, by decide +kernel⟩⟩
theorem k_Forge_isVariable : zz_Y0 y_Forge_isVariable b_Forge_isVariable 1 (some .boolean) 1 := ⟨zz_in (i := 340) (by decide +kernel) rfl, zz_in (i := 30) (by decide +kernel) rfl, zz_in (i := 339) (by decide +kernel) rfl, ⟨by decide, by decide, by decide +kernel⟩⟩
theorem k_Pile_heightOfNew : zz_Y1 y_Pile_heightOfNew b_Pile_heightOfNew 2 (some .int) 1 := ⟨zz_in (i := 344) (by decide +kernel) rfl, zz_in (i := 32) (by decide +kernel) rfl, zz_in (i := 342) (by decide +kernel) rfl, zz_in (i := 343) (by decide +kernel) rfl, ⟨by decide, by decide, by decide +kernel⟩⟩
theorem k_Pile_firstKid : zz_Y1 y_Pile_firstKid b_Pile_firstKid 3 (some .int) 2 := ⟨zz_in (i := 349) (by decide +kernel) rfl, zz_in (i := 32) (by decide +kernel) rfl, zz_in (i := 347) (by decide +kernel) rfl, zz_in (i := 348) (by decide +kernel) rfl, ⟨by decide, by decide, by decide +kernel⟩⟩
theorem k_Math_max : zz_Y0 y_Math_max b_Math_max 2 (some .int) 2 := ⟨zz_in (i := 352) (by decide +kernel) rfl, zz_in (i := 38) (by decide +kernel) rfl, zz_in (i := 351) (by decide +kernel) rfl, ⟨by decide, by decide, by decide +kernel⟩⟩
theorem k_Pile_add : zz_Y1 y_Pile_add b_Pile_add 5 none 2 := ⟨zz_in (i := 356) (by decide +kernel) rfl, zz_in (i := 32) (by decide +kernel) rfl, zz_in (i := 354) (by decide +kernel) rfl, zz_in (i := 355) (by decide +kernel) rfl, ⟨by decide, by decide, by decide +kernel⟩⟩
theorem k_Forge_pop : zz_Y1 y_Forge_pop b_Forge_pop 1 (some .boolean) 0 := ⟨zz_in (i := 361) (by decide +kernel) rfl, zz_in (i := 30) (by decide +kernel) rfl, zz_in (i := 359) (by decide +kernel) rfl, zz_in (i := 360) (by decide +kernel) rfl, ⟨by decide, by decide, by decide +kernel⟩⟩
theorem k_Pile_removeTop : zz_Y1 y_Pile_removeTop b_Pile_removeTop 1 none 0 := ⟨zz_in (i := 365) (by decide +kernel) rfl, zz_in (i := 32) (by decide +kernel) rfl, zz_in (i := 363) (by decide +kernel) rfl, zz_in (i := 364) (by decide +kernel) rfl, ⟨by decide, by decide, by decide +kernel⟩⟩
theorem k_Pile_topSize : zz_Y1 y_Pile_topSize b_Pile_topSize 1 (some .int) 0 := ⟨zz_in (i := 369) (by decide +kernel) rfl, zz_in (i := 32) (by decide +kernel) rfl, zz_in (i := 367) (by decide +kernel) rfl, zz_in (i := 368) (by decide +kernel) rfl, ⟨by decide, by decide, by decide +kernel⟩⟩
theorem k_Math_min : zz_Y0 y_Math_min b_Math_min 2 (some .int) 2 := ⟨zz_in (i := 372) (by decide +kernel) rfl, zz_in (i := 38) (by decide +kernel) rfl, zz_in (i := 371) (by decide +kernel) rfl, ⟨by decide, by decide, by decide +kernel⟩⟩
theorem k_Forge_trees : zz_Y1 y_Forge_trees b_Forge_trees 1 (some .int) 0 := ⟨zz_in (i := 376) (by decide +kernel) rfl, zz_in (i := 30) (by decide +kernel) rfl, zz_in (i := 374) (by decide +kernel) rfl, zz_in (i := 375) (by decide +kernel) rfl, ⟨by decide, by decide, by decide +kernel⟩⟩
theorem k_Forge_nodes : zz_Y1 y_Forge_nodes b_Forge_nodes 1 (some .int) 0 := ⟨zz_in (i := 380) (by decide +kernel) rfl, zz_in (i := 30) (by decide +kernel) rfl, zz_in (i := 378) (by decide +kernel) rfl, zz_in (i := 379) (by decide +kernel) rfl, ⟨by decide, by decide, by decide +kernel⟩⟩
theorem k_Forge_relative : zz_Y1 y_Forge_relative b_Forge_relative 4 (some .int) 2 := ⟨zz_in (i := 385) (by decide +kernel) rfl, zz_in (i := 30) (by decide +kernel) rfl, zz_in (i := 383) (by decide +kernel) rfl, zz_in (i := 384) (by decide +kernel) rfl, ⟨by decide, by decide, by decide +kernel⟩⟩
theorem k_Forge_isTopNode : zz_Y1 y_Forge_isTopNode b_Forge_isTopNode 2 (some .boolean) 1 := ⟨zz_in (i := 389) (by decide +kernel) rfl, zz_in (i := 30) (by decide +kernel) rfl, zz_in (i := 388) (by decide +kernel) rfl, zz_in (i := 5) (by decide +kernel) rfl, ⟨by decide, by decide, by decide +kernel⟩⟩
theorem k_Pile_labelOf : zz_Y1 y_Pile_labelOf b_Pile_labelOf 7 (some (.object "TreeCoverForge$Label")) 2 := ⟨zz_in (i := 393) (by decide +kernel) rfl, zz_in (i := 32) (by decide +kernel) rfl, zz_in (i := 391) (by decide +kernel) rfl, zz_in (i := 392) (by decide +kernel) rfl, ⟨by decide, by decide, by decide +kernel⟩⟩
theorem k_Pile_topStart : zz_Y1 y_Pile_topStart b_Pile_topStart 1 (some .int) 0 := ⟨zz_in (i := 398) (by decide +kernel) rfl, zz_in (i := 32) (by decide +kernel) rfl, zz_in (i := 396) (by decide +kernel) rfl, zz_in (i := 397) (by decide +kernel) rfl, ⟨by decide, by decide, by decide +kernel⟩⟩
theorem k_Forge_choice : zz_Y1 y_Forge_choice b_Forge_choice 3 (some .int) 2 := ⟨zz_in (i := 404) (by decide +kernel) rfl, zz_in (i := 30) (by decide +kernel) rfl, zz_in (i := 402) (by decide +kernel) rfl, zz_in (i := 403) (by decide +kernel) rfl, ⟨by decide, by decide, by decide +kernel⟩⟩
theorem k_Forge_cost : zz_Y1 y_Forge_cost b_Forge_cost 3 (some .int) 1 := ⟨zz_in (i := 408) (by decide +kernel) rfl, zz_in (i := 30) (by decide +kernel) rfl, zz_in (i := 406) (by decide +kernel) rfl, zz_in (i := 407) (by decide +kernel) rfl, ⟨by decide, by decide, by decide +kernel⟩⟩
theorem k_Forge_registers : zz_Y1 y_Forge_registers b_Forge_registers 2 (some .boolean) 1 := ⟨zz_in (i := 412) (by decide +kernel) rfl, zz_in (i := 30) (by decide +kernel) rfl, zz_in (i := 410) (by decide +kernel) rfl, zz_in (i := 411) (by decide +kernel) rfl, ⟨by decide, by decide, by decide +kernel⟩⟩
theorem k_Forge_cover : zz_Y1 y_Forge_cover b_Forge_cover 1 (some .int) 0 := ⟨zz_in (i := 416) (by decide +kernel) rfl, zz_in (i := 30) (by decide +kernel) rfl, zz_in (i := 414) (by decide +kernel) rfl, zz_in (i := 415) (by decide +kernel) rfl, ⟨by decide, by decide, by decide +kernel⟩⟩
theorem k_Code_write : zz_Y1 y_Code_write b_Code_write 6 none 2 := ⟨zz_in (i := 420) (by decide +kernel) rfl, zz_in (i := 35) (by decide +kernel) rfl, zz_in (i := 418) (by decide +kernel) rfl, zz_in (i := 419) (by decide +kernel) rfl, ⟨by decide, by decide, by decide +kernel⟩⟩
theorem k_Code_chooseKinds : zz_Y1 y_Code_chooseKinds b_Code_chooseKinds 6 none 2 := ⟨zz_in (i := 424) (by decide +kernel) rfl, zz_in (i := 35) (by decide +kernel) rfl, zz_in (i := 423) (by decide +kernel) rfl, zz_in (i := 6) (by decide +kernel) rfl, ⟨by decide, by decide, by decide +kernel⟩⟩
theorem k_Code_followChoices : zz_Y1 y_Code_followChoices b_Code_followChoices 8 (some .int) 3 := ⟨zz_in (i := 429) (by decide +kernel) rfl, zz_in (i := 35) (by decide +kernel) rfl, zz_in (i := 428) (by decide +kernel) rfl, zz_in (i := 7) (by decide +kernel) rfl, ⟨by decide, by decide, by decide +kernel⟩⟩
theorem k_Code_writeOperator : zz_Y1 y_Code_writeOperator b_Code_writeOperator 7 none 3 := ⟨zz_in (i := 435) (by decide +kernel) rfl, zz_in (i := 35) (by decide +kernel) rfl, zz_in (i := 434) (by decide +kernel) rfl, zz_in (i := 8) (by decide +kernel) rfl, ⟨by decide, by decide, by decide +kernel⟩⟩
theorem k_Code_append : zz_Y1 y_Code_append b_Code_append 7 none 6 := ⟨zz_in (i := 439) (by decide +kernel) rfl, zz_in (i := 35) (by decide +kernel) rfl, zz_in (i := 438) (by decide +kernel) rfl, zz_in (i := 9) (by decide +kernel) rfl, ⟨by decide, by decide, by decide +kernel⟩⟩
theorem k_Code_givePlaces : zz_Y1 y_Code_givePlaces b_Code_givePlaces 4 none 1 := ⟨zz_in (i := 443) (by decide +kernel) rfl, zz_in (i := 35) (by decide +kernel) rfl, zz_in (i := 441) (by decide +kernel) rfl, zz_in (i := 442) (by decide +kernel) rfl, ⟨by decide, by decide, by decide +kernel⟩⟩
theorem k_Code_releaseUntil : zz_Y1 y_Code_releaseUntil b_Code_releaseUntil 4 none 2 := ⟨zz_in (i := 448) (by decide +kernel) rfl, zz_in (i := 35) (by decide +kernel) rfl, zz_in (i := 447) (by decide +kernel) rfl, zz_in (i := 10) (by decide +kernel) rfl, ⟨by decide, by decide, by decide +kernel⟩⟩
theorem k_Code_leastFree : zz_Y1 y_Code_leastFree b_Code_leastFree 3 (some .int) 1 := ⟨zz_in (i := 452) (by decide +kernel) rfl, zz_in (i := 35) (by decide +kernel) rfl, zz_in (i := 451) (by decide +kernel) rfl, zz_in (i := 11) (by decide +kernel) rfl, ⟨by decide, by decide, by decide +kernel⟩⟩
theorem k_Code_spillFor : zz_Y1 y_Code_spillFor b_Code_spillFor 5 none 2 := ⟨zz_in (i := 456) (by decide +kernel) rfl, zz_in (i := 35) (by decide +kernel) rfl, zz_in (i := 455) (by decide +kernel) rfl, zz_in (i := 12) (by decide +kernel) rfl, ⟨by decide, by decide, by decide +kernel⟩⟩
theorem k_Code_isNeededLonger : zz_Y1 y_Code_isNeededLonger b_Code_isNeededLonger 3 (some .boolean) 2 := ⟨zz_in (i := 460) (by decide +kernel) rfl, zz_in (i := 35) (by decide +kernel) rfl, zz_in (i := 459) (by decide +kernel) rfl, zz_in (i := 13) (by decide +kernel) rfl, ⟨by decide, by decide, by decide +kernel⟩⟩
theorem k_Forge_instruction : zz_Y1 y_Forge_instruction b_Forge_instruction 3 (some .int) 2 := ⟨zz_in (i := 464) (by decide +kernel) rfl, zz_in (i := 30) (by decide +kernel) rfl, zz_in (i := 462) (by decide +kernel) rfl, zz_in (i := 463) (by decide +kernel) rfl, ⟨by decide, by decide, by decide +kernel⟩⟩
theorem k_Code_tell : zz_Y1 y_Code_tell b_Code_tell 3 (some .int) 2 := ⟨zz_in (i := 468) (by decide +kernel) rfl, zz_in (i := 35) (by decide +kernel) rfl, zz_in (i := 466) (by decide +kernel) rfl, zz_in (i := 467) (by decide +kernel) rfl, ⟨by decide, by decide, by decide +kernel⟩⟩
theorem k_Code_placeOf : zz_Y1 y_Code_placeOf b_Code_placeOf 2 (some .int) 1 := ⟨zz_in (i := 472) (by decide +kernel) rfl, zz_in (i := 35) (by decide +kernel) rfl, zz_in (i := 471) (by decide +kernel) rfl, zz_in (i := 14) (by decide +kernel) rfl, ⟨by decide, by decide, by decide +kernel⟩⟩
theorem k_Forge_slots : zz_Y1 y_Forge_slots b_Forge_slots 1 (some .int) 0 := ⟨zz_in (i := 476) (by decide +kernel) rfl, zz_in (i := 30) (by decide +kernel) rfl, zz_in (i := 474) (by decide +kernel) rfl, zz_in (i := 475) (by decide +kernel) rfl, ⟨by decide, by decide, by decide +kernel⟩⟩
theorem k_Forge_set : zz_Y1 y_Forge_set b_Forge_set 3 (some .boolean) 2 := ⟨zz_in (i := 480) (by decide +kernel) rfl, zz_in (i := 30) (by decide +kernel) rfl, zz_in (i := 478) (by decide +kernel) rfl, zz_in (i := 479) (by decide +kernel) rfl, ⟨by decide, by decide, by decide +kernel⟩⟩
theorem k_Forge_run : zz_Y1 y_Forge_run b_Forge_run 1 (some .int) 0 := ⟨zz_in (i := 484) (by decide +kernel) rfl, zz_in (i := 30) (by decide +kernel) rfl, zz_in (i := 482) (by decide +kernel) rfl, zz_in (i := 483) (by decide +kernel) rfl, ⟨by decide, by decide, by decide +kernel⟩⟩
theorem k_Code_execute : zz_Y1 y_Code_execute b_Code_execute 5 (some .int) 1 := ⟨zz_in (i := 488) (by decide +kernel) rfl, zz_in (i := 35) (by decide +kernel) rfl, zz_in (i := 486) (by decide +kernel) rfl, zz_in (i := 487) (by decide +kernel) rfl, ⟨by decide, by decide, by decide +kernel⟩⟩
theorem k_Forge_resultOf : zz_Y0 y_Forge_resultOf b_Forge_resultOf 5 (some .int) 5 := ⟨zz_in (i := 491) (by decide +kernel) rfl, zz_in (i := 30) (by decide +kernel) rfl, zz_in (i := 490) (by decide +kernel) rfl, ⟨by decide, by decide, by decide +kernel⟩⟩
theorem k_Forge_value : zz_Y1 y_Forge_value b_Forge_value 1 (some .int) 0 := ⟨zz_in (i := 495) (by decide +kernel) rfl, zz_in (i := 30) (by decide +kernel) rfl, zz_in (i := 493) (by decide +kernel) rfl, zz_in (i := 494) (by decide +kernel) rfl, ⟨by decide, by decide, by decide +kernel⟩⟩
theorem k_Pile_evaluateTop : zz_Y1 y_Pile_evaluateTop b_Pile_evaluateTop 6 (some .int) 1 := ⟨zz_in (i := 499) (by decide +kernel) rfl, zz_in (i := 32) (by decide +kernel) rfl, zz_in (i := 497) (by decide +kernel) rfl, zz_in (i := 498) (by decide +kernel) rfl, ⟨by decide, by decide, by decide +kernel⟩⟩
theorem k_Model_rule : zz_Y1 y_Model_rule b_Model_rule 6 (some .int) 5 := ⟨zz_in (i := 628) (by decide +kernel) rfl, zz_in (i := 36) (by decide +kernel) rfl, zz_in (i := 626) (by decide +kernel) rfl, zz_in (i := 627) (by decide +kernel) rfl, ⟨by decide, by decide, by decide +kernel⟩⟩
theorem k_Model_outside : zz_Y0 y_Model_outside b_Model_outside 2 (some .boolean) 2 := ⟨zz_in (i := 631) (by decide +kernel) rfl, zz_in (i := 36) (by decide +kernel) rfl, zz_in (i := 630) (by decide +kernel) rfl, ⟨by decide, by decide, by decide +kernel⟩⟩
theorem k_Model_clear : zz_Y1 y_Model_clear b_Model_clear 1 none 0 := ⟨zz_in (i := 635) (by decide +kernel) rfl, zz_in (i := 36) (by decide +kernel) rfl, zz_in (i := 633) (by decide +kernel) rfl, zz_in (i := 634) (by decide +kernel) rfl, ⟨by decide, by decide, by decide +kernel⟩⟩
theorem k_Model_states : zz_Y1 y_Model_states b_Model_states 4 (some .int) 0 := ⟨zz_in (i := 639) (by decide +kernel) rfl, zz_in (i := 36) (by decide +kernel) rfl, zz_in (i := 637) (by decide +kernel) rfl, zz_in (i := 638) (by decide +kernel) rfl, ⟨by decide, by decide, by decide +kernel⟩⟩
theorem k_Model_combine : zz_Y1 y_Model_combine b_Model_combine 6 none 1 := ⟨zz_in (i := 643) (by decide +kernel) rfl, zz_in (i := 36) (by decide +kernel) rfl, zz_in (i := 642) (by decide +kernel) rfl, zz_in (i := 15) (by decide +kernel) rfl, ⟨by decide, by decide, by decide +kernel⟩⟩
theorem k_Model_through : zz_Y1 y_Model_through b_Model_through 6 (some .long) 2 := ⟨zz_in (i := 648) (by decide +kernel) rfl, zz_in (i := 36) (by decide +kernel) rfl, zz_in (i := 647) (by decide +kernel) rfl, zz_in (i := 16) (by decide +kernel) rfl, ⟨by decide, by decide, by decide +kernel⟩⟩
theorem k_Model_kids : zz_Y0 y_Model_kids b_Model_kids 1 (some .int) 1 := ⟨zz_in (i := 651) (by decide +kernel) rfl, zz_in (i := 36) (by decide +kernel) rfl, zz_in (i := 650) (by decide +kernel) rfl, ⟨by decide, by decide, by decide +kernel⟩⟩
theorem k_Model_known : zz_Y1 y_Model_known b_Model_known 8 (some .boolean) 0 := ⟨zz_in (i := 655) (by decide +kernel) rfl, zz_in (i := 36) (by decide +kernel) rfl, zz_in (i := 654) (by decide +kernel) rfl, zz_in (i := 17) (by decide +kernel) rfl, ⟨by decide, by decide, by decide +kernel⟩⟩
theorem k_Model_lowest : zz_Y1 y_Model_lowest b_Model_lowest 4 (some .long) 0 := ⟨zz_in (i := 659) (by decide +kernel) rfl, zz_in (i := 36) (by decide +kernel) rfl, zz_in (i := 658) (by decide +kernel) rfl, zz_in (i := 18) (by decide +kernel) rfl, ⟨by decide, by decide, by decide +kernel⟩⟩
theorem k_Model_reach : zz_Y1 y_Model_reach b_Model_reach 5 (some .boolean) 3 := ⟨zz_in (i := 663) (by decide +kernel) rfl, zz_in (i := 36) (by decide +kernel) rfl, zz_in (i := 662) (by decide +kernel) rfl, zz_in (i := 19) (by decide +kernel) rfl, ⟨by decide, by decide, by decide +kernel⟩⟩
theorem k_Model_push : zz_Y1 y_Model_push b_Model_push 6 (some .int) 2 := ⟨zz_in (i := 667) (by decide +kernel) rfl, zz_in (i := 36) (by decide +kernel) rfl, zz_in (i := 665) (by decide +kernel) rfl, zz_in (i := 666) (by decide +kernel) rfl, ⟨by decide, by decide, by decide +kernel⟩⟩
theorem k_Model_pop : zz_Y1 y_Model_pop b_Model_pop 1 (some .boolean) 0 := ⟨zz_in (i := 671) (by decide +kernel) rfl, zz_in (i := 36) (by decide +kernel) rfl, zz_in (i := 669) (by decide +kernel) rfl, zz_in (i := 670) (by decide +kernel) rfl, ⟨by decide, by decide, by decide +kernel⟩⟩
theorem k_Model_trees : zz_Y1 y_Model_trees b_Model_trees 1 (some .int) 0 := ⟨zz_in (i := 675) (by decide +kernel) rfl, zz_in (i := 36) (by decide +kernel) rfl, zz_in (i := 673) (by decide +kernel) rfl, zz_in (i := 674) (by decide +kernel) rfl, ⟨by decide, by decide, by decide +kernel⟩⟩
theorem k_Model_nodes : zz_Y1 y_Model_nodes b_Model_nodes 1 (some .int) 0 := ⟨zz_in (i := 679) (by decide +kernel) rfl, zz_in (i := 36) (by decide +kernel) rfl, zz_in (i := 677) (by decide +kernel) rfl, zz_in (i := 678) (by decide +kernel) rfl, ⟨by decide, by decide, by decide +kernel⟩⟩
theorem k_Model_relative : zz_Y1 y_Model_relative b_Model_relative 7 (some .int) 2 := ⟨zz_in (i := 683) (by decide +kernel) rfl, zz_in (i := 36) (by decide +kernel) rfl, zz_in (i := 681) (by decide +kernel) rfl, zz_in (i := 682) (by decide +kernel) rfl, ⟨by decide, by decide, by decide +kernel⟩⟩
theorem k_Model_noNode : zz_Y1 y_Model_noNode b_Model_noNode 3 (some .boolean) 2 := ⟨zz_in (i := 687) (by decide +kernel) rfl, zz_in (i := 36) (by decide +kernel) rfl, zz_in (i := 686) (by decide +kernel) rfl, zz_in (i := 20) (by decide +kernel) rfl, ⟨by decide, by decide, by decide +kernel⟩⟩
theorem k_Model_work : zz_Y1 y_Model_work b_Model_work 3 (some .boolean) 0 := ⟨zz_in (i := 692) (by decide +kernel) rfl, zz_in (i := 36) (by decide +kernel) rfl, zz_in (i := 691) (by decide +kernel) rfl, zz_in (i := 21) (by decide +kernel) rfl, ⟨by decide, by decide, by decide +kernel⟩⟩
theorem k_Model_takeKids : zz_Y1 y_Model_takeKids b_Model_takeKids 5 none 1 := ⟨zz_in (i := 696) (by decide +kernel) rfl, zz_in (i := 36) (by decide +kernel) rfl, zz_in (i := 695) (by decide +kernel) rfl, zz_in (i := 22) (by decide +kernel) rfl, ⟨by decide, by decide, by decide +kernel⟩⟩
theorem k_Model_choice : zz_Y1 y_Model_choice b_Model_choice 3 (some .int) 2 := ⟨zz_in (i := 700) (by decide +kernel) rfl, zz_in (i := 36) (by decide +kernel) rfl, zz_in (i := 698) (by decide +kernel) rfl, zz_in (i := 699) (by decide +kernel) rfl, ⟨by decide, by decide, by decide +kernel⟩⟩
theorem k_Model_cost : zz_Y1 y_Model_cost b_Model_cost 4 (some .int) 1 := ⟨zz_in (i := 704) (by decide +kernel) rfl, zz_in (i := 36) (by decide +kernel) rfl, zz_in (i := 702) (by decide +kernel) rfl, zz_in (i := 703) (by decide +kernel) rfl, ⟨by decide, by decide, by decide +kernel⟩⟩
theorem k_Model_registers : zz_Y1 y_Model_registers b_Model_registers 2 (some .boolean) 1 := ⟨zz_in (i := 708) (by decide +kernel) rfl, zz_in (i := 36) (by decide +kernel) rfl, zz_in (i := 706) (by decide +kernel) rfl, zz_in (i := 707) (by decide +kernel) rfl, ⟨by decide, by decide, by decide +kernel⟩⟩
theorem k_Model_cover : zz_Y1 y_Model_cover b_Model_cover 3 (some .int) 0 := ⟨zz_in (i := 712) (by decide +kernel) rfl, zz_in (i := 36) (by decide +kernel) rfl, zz_in (i := 710) (by decide +kernel) rfl, zz_in (i := 711) (by decide +kernel) rfl, ⟨by decide, by decide, by decide +kernel⟩⟩
theorem k_Model_want : zz_Y1 y_Model_want b_Model_want 6 none 1 := ⟨zz_in (i := 716) (by decide +kernel) rfl, zz_in (i := 36) (by decide +kernel) rfl, zz_in (i := 715) (by decide +kernel) rfl, zz_in (i := 23) (by decide +kernel) rfl, ⟨by decide, by decide, by decide +kernel⟩⟩
theorem k_Model_emit : zz_Y1 y_Model_emit b_Model_emit 8 none 2 := ⟨zz_in (i := 720) (by decide +kernel) rfl, zz_in (i := 36) (by decide +kernel) rfl, zz_in (i := 719) (by decide +kernel) rfl, zz_in (i := 24) (by decide +kernel) rfl, ⟨by decide, by decide, by decide +kernel⟩⟩
theorem k_Model_write : zz_Y1 y_Model_write b_Model_write 6 none 5 := ⟨zz_in (i := 724) (by decide +kernel) rfl, zz_in (i := 36) (by decide +kernel) rfl, zz_in (i := 723) (by decide +kernel) rfl, zz_in (i := 25) (by decide +kernel) rfl, ⟨by decide, by decide, by decide +kernel⟩⟩
theorem k_Model_settle : zz_Y1 y_Model_settle b_Model_settle 5 none 1 := ⟨zz_in (i := 728) (by decide +kernel) rfl, zz_in (i := 36) (by decide +kernel) rfl, zz_in (i := 727) (by decide +kernel) rfl, zz_in (i := 26) (by decide +kernel) rfl, ⟨by decide, by decide, by decide +kernel⟩⟩
theorem k_Model_holds : zz_Y1 y_Model_holds b_Model_holds 3 (some .boolean) 2 := ⟨zz_in (i := 732) (by decide +kernel) rfl, zz_in (i := 36) (by decide +kernel) rfl, zz_in (i := 731) (by decide +kernel) rfl, zz_in (i := 27) (by decide +kernel) rfl, ⟨by decide, by decide, by decide +kernel⟩⟩
theorem k_Model_instruction : zz_Y1 y_Model_instruction b_Model_instruction 4 (some .int) 2 := ⟨zz_in (i := 736) (by decide +kernel) rfl, zz_in (i := 36) (by decide +kernel) rfl, zz_in (i := 734) (by decide +kernel) rfl, zz_in (i := 735) (by decide +kernel) rfl, ⟨by decide, by decide, by decide +kernel⟩⟩
theorem k_Model_slots : zz_Y1 y_Model_slots b_Model_slots 1 (some .int) 0 := ⟨zz_in (i := 740) (by decide +kernel) rfl, zz_in (i := 36) (by decide +kernel) rfl, zz_in (i := 738) (by decide +kernel) rfl, zz_in (i := 739) (by decide +kernel) rfl, ⟨by decide, by decide, by decide +kernel⟩⟩
theorem k_Model_set : zz_Y1 y_Model_set b_Model_set 3 (some .boolean) 2 := ⟨zz_in (i := 744) (by decide +kernel) rfl, zz_in (i := 36) (by decide +kernel) rfl, zz_in (i := 742) (by decide +kernel) rfl, zz_in (i := 743) (by decide +kernel) rfl, ⟨by decide, by decide, by decide +kernel⟩⟩
theorem k_Model_run : zz_Y1 y_Model_run b_Model_run 4 (some .int) 0 := ⟨zz_in (i := 748) (by decide +kernel) rfl, zz_in (i := 36) (by decide +kernel) rfl, zz_in (i := 746) (by decide +kernel) rfl, zz_in (i := 747) (by decide +kernel) rfl, ⟨by decide, by decide, by decide +kernel⟩⟩
theorem k_Model_calculate : zz_Y1 y_Model_calculate b_Model_calculate 5 (some .int) 4 := ⟨zz_in (i := 752) (by decide +kernel) rfl, zz_in (i := 36) (by decide +kernel) rfl, zz_in (i := 751) (by decide +kernel) rfl, zz_in (i := 28) (by decide +kernel) rfl, ⟨by decide, by decide, by decide +kernel⟩⟩
theorem k_Model_value : zz_Y1 y_Model_value b_Model_value 4 (some .int) 0 := ⟨zz_in (i := 756) (by decide +kernel) rfl, zz_in (i := 36) (by decide +kernel) rfl, zz_in (i := 754) (by decide +kernel) rfl, zz_in (i := 755) (by decide +kernel) rfl, ⟨by decide, by decide, by decide +kernel⟩⟩
theorem w_mmax_code : Cond.code Lib.Math.max.name Lib.Math.max.code 2 (some .int) ∈ zz_tbl := zz_in (i := 352) (by decide +kernel) rfl
theorem w_mmax_st : Cond.static Lib.Math.max.name ∈ zz_tbl := zz_in (i := 351) (by decide +kernel) rfl
theorem w_mmin_code : Cond.code Lib.Math.min.name Lib.Math.min.code 2 (some .int) ∈ zz_tbl := zz_in (i := 372) (by decide +kernel) rfl
theorem w_mmin_st : Cond.static Lib.Math.min.name ∈ zz_tbl := zz_in (i := 371) (by decide +kernel) rfl
theorem w_math_ini : Cond.initialized "java/lang/Math" ∈ zz_tbl := zz_in (i := 38) (by decide +kernel) rfl
end
section
/-! The cells of the class's object (291 of them) and of the reference's (33): which cell is what. Laid by wip/whole/prog/names.py. -/
/-- class numbers, slots; addresses; the classes of int[], long[], Label[], int[][]; the table of arities -/
abbrev xg_T : Type := va_G × (Nat → Nat) × ClassId × ClassId × ClassId × ClassId × Nat
abbrev xg_cl : List vw_C := [(R_Forge, F_Forge, 6), (R_Book, F_Book, 8), (R_Label, F_Label, 2), (R_Table, F_Table, 4), (R_Pile, F_Pile, 10), (R_Code, F_Code, 15), (R_Model, F_Model, 39)]
abbrev xg_ty (q : xg_T) : List (ClassId × FieldType) := [(q.2.2.1, .int), (q.2.2.2.1, .long), (q.2.2.2.2.1, .object R_Label), (q.2.2.2.2.2.1, .array .int)]
def xy_L (q : xg_T) : zz_Y := fun c f g =>
  match c with
  | 0 => .inr (0, [.ref (q.2.1 1), .ref (q.2.1 18), .ref (q.2.1 25), .ref (q.2.1 27), .ref (q.2.1 41), .int (f 5)])
  | 1 => .inr (1, [.ref (q.2.1 2), .ref (q.2.1 3), .ref (q.2.1 4), .ref (q.2.1 5), .ref (q.2.1 6), .ref (q.2.1 7), .ref (q.2.1 8), .int (f 7)])
  | 2 => .inl (q.2.2.1, 24, .inl f)
  | 3 => .inl (q.2.2.1, 24, .inl f)
  | 4 => .inl (q.2.2.1, 24, .inl f)
  | 5 => .inl (q.2.2.1, 24, .inl f)
  | 6 => .inl (q.2.2.1, 24, .inl f)
  | 7 => .inl (q.2.2.2.2.2.1, 9, .inr (.inr (.inr (.inr (fun i => some (q.2.1 (9 + i)))))))
  | 8 => .inl (q.2.2.1, 9, .inl f)
  | 18 => .inr (4, [.ref (q.2.1 19), .ref (q.2.1 20), .ref (q.2.1 21), .ref (q.2.1 22), .ref (q.2.1 23), .ref (q.2.1 24), .ref (q.2.1 (42 + 3 * 40)), .int (f 7), .int (f 8), .int (f 9)])
  | 19 => .inl (q.2.2.1, 40, .inl f)
  | 20 => .inl (q.2.2.1, 40, .inl f)
  | 21 => .inl (q.2.2.1, 40, .inl f)
  | 22 => .inl (q.2.2.1, 40, .inl f)
  | 23 => .inl (q.2.2.1, 40, .inl f)
  | 24 => .inl (q.2.2.2.2.1, 40, .inr (.inr (.inr (.inr (fun i => some (q.2.1 (42 + 3 * i)))))))
  | 25 => .inr (3, [.ref (q.2.1 26), .ref (q.2.1 (42 + 3 * 41)), .int (f 2), .int (f 3)])
  | 26 => .inl (q.2.2.2.2.1, 41, .inr (.inr (.inr (.inr (fun i => some (q.2.1 (42 + 3 * (42 + i))))))))
  | 27 => .inr (5, [.ref (q.2.1 28), .ref (q.2.1 29), .ref (q.2.1 30), .ref (q.2.1 31), .ref (q.2.1 32), .ref (q.2.1 33), .ref (q.2.1 34), .ref (q.2.1 35), .ref (q.2.1 36), .ref (q.2.1 37), .ref (q.2.1 38), .ref (q.2.1 39), .ref (q.2.1 40), .int (f 13), .int (f 14)])
  | 28 => .inl (q.2.2.1, 160, .inl f)
  | 29 => .inl (q.2.2.1, 160, .inl f)
  | 30 => .inl (q.2.2.1, 160, .inl f)
  | 31 => .inl (q.2.2.1, 160, .inl f)
  | 32 => .inl (q.2.2.1, 160, .inl f)
  | 33 => .inl (q.2.2.1, 160, .inl f)
  | 34 => .inl (q.2.2.1, 160, .inl f)
  | 35 => .inl (q.2.2.1, 160, .inl f)
  | 36 => .inl (q.2.2.1, 164, .inl f)
  | 37 => .inl (q.2.2.1, 4, .inl f)
  | 38 => .inl (q.2.2.1, 40, .inl f)
  | 39 => .inl (q.2.2.1, 40, .inl f)
  | 40 => .inl (q.2.2.1, 4, .inl f)
  | _ => .inl (q.2.2.1, 8, .inl f)
def xy_Y (q : xg_T) : zz_Y := fun c f g =>
  if 42 ≤ c then
    if (c - 42) % 3 = 0 then .inr (2, [.ref (q.2.1 (c + 1)), .ref (q.2.1 (c + 2))])
    else if (c - 42) % 3 = 1 then .inl (q.2.2.2.1, 4, .inr (.inl g))
    else .inl (q.2.2.1, 4, .inl f)
  else if 9 ≤ c ∧ c < 18 then .inl (q.2.2.1, 24, .inl f)
  else xy_L q c f g
def xg_G (q : xg_T) : zz_G := (q.1, xg_cl, xg_ty q, 291, q.2.1, xy_Y q, q.2.2.2.2.2.2)
theorem xc_0 (q : xg_T) (f : Nat → Int32) (g : Nat → Int64) : zz_y (xg_G q) 0 f g = .inr (0, [.ref (zz_ad (xg_G q) 1), .ref (zz_ad (xg_G q) 18), .ref (zz_ad (xg_G q) 25), .ref (zz_ad (xg_G q) 27), .ref (zz_ad (xg_G q) 41), .int (f 5)]) := rfl
theorem xc_1 (q : xg_T) (f : Nat → Int32) (g : Nat → Int64) : zz_y (xg_G q) 1 f g = .inr (1, [.ref (zz_ad (xg_G q) 2), .ref (zz_ad (xg_G q) 3), .ref (zz_ad (xg_G q) 4), .ref (zz_ad (xg_G q) 5), .ref (zz_ad (xg_G q) 6), .ref (zz_ad (xg_G q) 7), .ref (zz_ad (xg_G q) 8), .int (f 7)]) := rfl
theorem xc_2 (q : xg_T) (f : Nat → Int32) (g : Nat → Int64) : zz_y (xg_G q) 2 f g = .inl (q.2.2.1, 24, .inl f) := rfl
theorem xc_3 (q : xg_T) (f : Nat → Int32) (g : Nat → Int64) : zz_y (xg_G q) 3 f g = .inl (q.2.2.1, 24, .inl f) := rfl
theorem xc_4 (q : xg_T) (f : Nat → Int32) (g : Nat → Int64) : zz_y (xg_G q) 4 f g = .inl (q.2.2.1, 24, .inl f) := rfl
theorem xc_5 (q : xg_T) (f : Nat → Int32) (g : Nat → Int64) : zz_y (xg_G q) 5 f g = .inl (q.2.2.1, 24, .inl f) := rfl
theorem xc_6 (q : xg_T) (f : Nat → Int32) (g : Nat → Int64) : zz_y (xg_G q) 6 f g = .inl (q.2.2.1, 24, .inl f) := rfl
theorem xc_7 (q : xg_T) (f : Nat → Int32) (g : Nat → Int64) : zz_y (xg_G q) 7 f g = .inl (q.2.2.2.2.2.1, 9, .inr (.inr (.inr (.inr (fun i => some (zz_ad (xg_G q) (9 + i))))))) := rfl
theorem xc_8 (q : xg_T) (f : Nat → Int32) (g : Nat → Int64) : zz_y (xg_G q) 8 f g = .inl (q.2.2.1, 9, .inl f) := rfl
theorem xc_9 (q : xg_T) (f : Nat → Int32) (g : Nat → Int64) : zz_y (xg_G q) 9 f g = .inl (q.2.2.1, 24, .inl f) := rfl
theorem xc_10 (q : xg_T) (f : Nat → Int32) (g : Nat → Int64) : zz_y (xg_G q) 10 f g = .inl (q.2.2.1, 24, .inl f) := rfl
theorem xc_11 (q : xg_T) (f : Nat → Int32) (g : Nat → Int64) : zz_y (xg_G q) 11 f g = .inl (q.2.2.1, 24, .inl f) := rfl
theorem xc_12 (q : xg_T) (f : Nat → Int32) (g : Nat → Int64) : zz_y (xg_G q) 12 f g = .inl (q.2.2.1, 24, .inl f) := rfl
theorem xc_13 (q : xg_T) (f : Nat → Int32) (g : Nat → Int64) : zz_y (xg_G q) 13 f g = .inl (q.2.2.1, 24, .inl f) := rfl
theorem xc_14 (q : xg_T) (f : Nat → Int32) (g : Nat → Int64) : zz_y (xg_G q) 14 f g = .inl (q.2.2.1, 24, .inl f) := rfl
theorem xc_15 (q : xg_T) (f : Nat → Int32) (g : Nat → Int64) : zz_y (xg_G q) 15 f g = .inl (q.2.2.1, 24, .inl f) := rfl
theorem xc_16 (q : xg_T) (f : Nat → Int32) (g : Nat → Int64) : zz_y (xg_G q) 16 f g = .inl (q.2.2.1, 24, .inl f) := rfl
theorem xc_17 (q : xg_T) (f : Nat → Int32) (g : Nat → Int64) : zz_y (xg_G q) 17 f g = .inl (q.2.2.1, 24, .inl f) := rfl
theorem xc_18 (q : xg_T) (f : Nat → Int32) (g : Nat → Int64) : zz_y (xg_G q) 18 f g = .inr (4, [.ref (zz_ad (xg_G q) 19), .ref (zz_ad (xg_G q) 20), .ref (zz_ad (xg_G q) 21), .ref (zz_ad (xg_G q) 22), .ref (zz_ad (xg_G q) 23), .ref (zz_ad (xg_G q) 24), .ref (zz_ad (xg_G q) (42 + 3 * 40)), .int (f 7), .int (f 8), .int (f 9)]) := rfl
theorem xc_19 (q : xg_T) (f : Nat → Int32) (g : Nat → Int64) : zz_y (xg_G q) 19 f g = .inl (q.2.2.1, 40, .inl f) := rfl
theorem xc_20 (q : xg_T) (f : Nat → Int32) (g : Nat → Int64) : zz_y (xg_G q) 20 f g = .inl (q.2.2.1, 40, .inl f) := rfl
theorem xc_21 (q : xg_T) (f : Nat → Int32) (g : Nat → Int64) : zz_y (xg_G q) 21 f g = .inl (q.2.2.1, 40, .inl f) := rfl
theorem xc_22 (q : xg_T) (f : Nat → Int32) (g : Nat → Int64) : zz_y (xg_G q) 22 f g = .inl (q.2.2.1, 40, .inl f) := rfl
theorem xc_23 (q : xg_T) (f : Nat → Int32) (g : Nat → Int64) : zz_y (xg_G q) 23 f g = .inl (q.2.2.1, 40, .inl f) := rfl
theorem xc_24 (q : xg_T) (f : Nat → Int32) (g : Nat → Int64) : zz_y (xg_G q) 24 f g = .inl (q.2.2.2.2.1, 40, .inr (.inr (.inr (.inr (fun i => some (zz_ad (xg_G q) (42 + 3 * i))))))) := rfl
theorem xc_25 (q : xg_T) (f : Nat → Int32) (g : Nat → Int64) : zz_y (xg_G q) 25 f g = .inr (3, [.ref (zz_ad (xg_G q) 26), .ref (zz_ad (xg_G q) (42 + 3 * 41)), .int (f 2), .int (f 3)]) := rfl
theorem xc_26 (q : xg_T) (f : Nat → Int32) (g : Nat → Int64) : zz_y (xg_G q) 26 f g = .inl (q.2.2.2.2.1, 41, .inr (.inr (.inr (.inr (fun i => some (zz_ad (xg_G q) (42 + 3 * (42 + i)))))))) := rfl
theorem xc_27 (q : xg_T) (f : Nat → Int32) (g : Nat → Int64) : zz_y (xg_G q) 27 f g = .inr (5, [.ref (zz_ad (xg_G q) 28), .ref (zz_ad (xg_G q) 29), .ref (zz_ad (xg_G q) 30), .ref (zz_ad (xg_G q) 31), .ref (zz_ad (xg_G q) 32), .ref (zz_ad (xg_G q) 33), .ref (zz_ad (xg_G q) 34), .ref (zz_ad (xg_G q) 35), .ref (zz_ad (xg_G q) 36), .ref (zz_ad (xg_G q) 37), .ref (zz_ad (xg_G q) 38), .ref (zz_ad (xg_G q) 39), .ref (zz_ad (xg_G q) 40), .int (f 13), .int (f 14)]) := rfl
theorem xc_28 (q : xg_T) (f : Nat → Int32) (g : Nat → Int64) : zz_y (xg_G q) 28 f g = .inl (q.2.2.1, 160, .inl f) := rfl
theorem xc_29 (q : xg_T) (f : Nat → Int32) (g : Nat → Int64) : zz_y (xg_G q) 29 f g = .inl (q.2.2.1, 160, .inl f) := rfl
theorem xc_30 (q : xg_T) (f : Nat → Int32) (g : Nat → Int64) : zz_y (xg_G q) 30 f g = .inl (q.2.2.1, 160, .inl f) := rfl
theorem xc_31 (q : xg_T) (f : Nat → Int32) (g : Nat → Int64) : zz_y (xg_G q) 31 f g = .inl (q.2.2.1, 160, .inl f) := rfl
theorem xc_32 (q : xg_T) (f : Nat → Int32) (g : Nat → Int64) : zz_y (xg_G q) 32 f g = .inl (q.2.2.1, 160, .inl f) := rfl
theorem xc_33 (q : xg_T) (f : Nat → Int32) (g : Nat → Int64) : zz_y (xg_G q) 33 f g = .inl (q.2.2.1, 160, .inl f) := rfl
theorem xc_34 (q : xg_T) (f : Nat → Int32) (g : Nat → Int64) : zz_y (xg_G q) 34 f g = .inl (q.2.2.1, 160, .inl f) := rfl
theorem xc_35 (q : xg_T) (f : Nat → Int32) (g : Nat → Int64) : zz_y (xg_G q) 35 f g = .inl (q.2.2.1, 160, .inl f) := rfl
theorem xc_36 (q : xg_T) (f : Nat → Int32) (g : Nat → Int64) : zz_y (xg_G q) 36 f g = .inl (q.2.2.1, 164, .inl f) := rfl
theorem xc_37 (q : xg_T) (f : Nat → Int32) (g : Nat → Int64) : zz_y (xg_G q) 37 f g = .inl (q.2.2.1, 4, .inl f) := rfl
theorem xc_38 (q : xg_T) (f : Nat → Int32) (g : Nat → Int64) : zz_y (xg_G q) 38 f g = .inl (q.2.2.1, 40, .inl f) := rfl
theorem xc_39 (q : xg_T) (f : Nat → Int32) (g : Nat → Int64) : zz_y (xg_G q) 39 f g = .inl (q.2.2.1, 40, .inl f) := rfl
theorem xc_40 (q : xg_T) (f : Nat → Int32) (g : Nat → Int64) : zz_y (xg_G q) 40 f g = .inl (q.2.2.1, 4, .inl f) := rfl
theorem xc_41 (q : xg_T) (f : Nat → Int32) (g : Nat → Int64) : zz_y (xg_G q) 41 f g = .inl (q.2.2.1, 8, .inl f) := rfl
theorem xy_lab (q : xg_T) (j : Nat) (f : Nat → Int32) (g : Nat → Int64) : zz_y (xg_G q) (42 + 3 * j) f g = .inr (2, [.ref (zz_ad (xg_G q) (42 + 3 * j + 1)), .ref (zz_ad (xg_G q) (42 + 3 * j + 2))]) := by
  show xy_Y q (42 + 3 * j) f g = _
  rw [xy_Y, if_pos (by omega), if_pos (by omega)]
  rfl
theorem xy_cost (q : xg_T) (j : Nat) (f : Nat → Int32) (g : Nat → Int64) : zz_y (xg_G q) (42 + 3 * j + 1) f g = .inl (q.2.2.2.1, 4, .inr (.inl g)) := by
  show xy_Y q (42 + 3 * j + 1) f g = _
  rw [xy_Y, if_pos (by omega), if_neg (by omega), if_pos (by omega)]
theorem xy_choi (q : xg_T) (j : Nat) (f : Nat → Int32) (g : Nat → Int64) : zz_y (xg_G q) (42 + 3 * j + 2) f g = .inl (q.2.2.1, 4, .inl f) := by
  show xy_Y q (42 + 3 * j + 2) f g = _
  rw [xy_Y, if_pos (by omega), if_neg (by omega), if_neg (by omega)]
theorem xy_row (q : xg_T) (o : Nat) (ho : o < 9) (f : Nat → Int32) (g : Nat → Int64) : zz_y (xg_G q) (9 + o) f g = .inl (q.2.2.1, 24, .inl f) := by
  show xy_Y q (9 + o) f g = _
  rw [xy_Y, if_neg (by omega), if_pos (by omega)]
def my_Y (q : xg_T) : zz_Y := fun c f g =>
  match c with
  | 0 => .inr (6, [.int (f 0), .ref (q.2.1 1), .ref (q.2.1 2), .ref (q.2.1 3), .ref (q.2.1 4), .ref (q.2.1 5), .int (f 6), .ref (q.2.1 6), .ref (q.2.1 7), .ref (q.2.1 8), .ref (q.2.1 9), .int (f 11), .ref (q.2.1 10), .ref (q.2.1 11), .ref (q.2.1 12), .ref (q.2.1 13), .ref (q.2.1 14), .ref (q.2.1 15), .ref (q.2.1 16), .int (f 19), .ref (q.2.1 17), .ref (q.2.1 18), .int (f 22), .int (f 23), .int (f 24), .ref (q.2.1 19), .ref (q.2.1 20), .ref (q.2.1 21), .ref (q.2.1 22), .ref (q.2.1 23), .ref (q.2.1 24), .ref (q.2.1 25), .ref (q.2.1 26), .ref (q.2.1 27), .ref (q.2.1 28), .ref (q.2.1 29), .ref (q.2.1 30), .ref (q.2.1 31), .ref (q.2.1 32)])
  | 1 => .inl (q.2.2.1, 24, .inl f)
  | 2 => .inl (q.2.2.1, 24, .inl f)
  | 3 => .inl (q.2.2.1, 24, .inl f)
  | 4 => .inl (q.2.2.1, 24, .inl f)
  | 5 => .inl (q.2.2.1, 24, .inl f)
  | 6 => .inl (q.2.2.1, 40, .inl f)
  | 7 => .inl (q.2.2.1, 40, .inl f)
  | 8 => .inl (q.2.2.1, 40, .inl f)
  | 9 => .inl (q.2.2.1, 40, .inl f)
  | 10 => .inl (q.2.2.1, 40, .inl f)
  | 11 => .inl (q.2.2.2.1, 160, .inr (.inl g))
  | 12 => .inl (q.2.2.1, 160, .inl f)
  | 13 => .inl (q.2.2.2.1, 4, .inr (.inl g))
  | 14 => .inl (q.2.2.2.1, 4, .inr (.inl g))
  | 15 => .inl (q.2.2.2.1, 4, .inr (.inl g))
  | 16 => .inl (q.2.2.1, 4, .inl f)
  | 17 => .inl (q.2.2.2.1, 164, .inr (.inl g))
  | 18 => .inl (q.2.2.1, 164, .inl f)
  | 19 => .inl (q.2.2.1, 160, .inl f)
  | 20 => .inl (q.2.2.1, 160, .inl f)
  | 21 => .inl (q.2.2.1, 160, .inl f)
  | 22 => .inl (q.2.2.1, 160, .inl f)
  | 23 => .inl (q.2.2.1, 160, .inl f)
  | 24 => .inl (q.2.2.1, 160, .inl f)
  | 25 => .inl (q.2.2.1, 160, .inl f)
  | 26 => .inl (q.2.2.1, 160, .inl f)
  | 27 => .inl (q.2.2.1, 160, .inl f)
  | 28 => .inl (q.2.2.1, 40, .inl f)
  | 29 => .inl (q.2.2.1, 40, .inl f)
  | 30 => .inl (q.2.2.1, 8, .inl f)
  | 31 => .inl (q.2.2.1, 8, .inl f)
  | _ => .inl (q.2.2.1, 40, .inl f)
def mg_G (q : xg_T) : zz_G := (q.1, xg_cl, xg_ty q, 33, q.2.1, my_Y q, q.2.2.2.2.2.2)
theorem mc_0 (q : xg_T) (f : Nat → Int32) (g : Nat → Int64) : zz_y (mg_G q) 0 f g = .inr (6, [.int (f 0), .ref (zz_ad (mg_G q) 1), .ref (zz_ad (mg_G q) 2), .ref (zz_ad (mg_G q) 3), .ref (zz_ad (mg_G q) 4), .ref (zz_ad (mg_G q) 5), .int (f 6), .ref (zz_ad (mg_G q) 6), .ref (zz_ad (mg_G q) 7), .ref (zz_ad (mg_G q) 8), .ref (zz_ad (mg_G q) 9), .int (f 11), .ref (zz_ad (mg_G q) 10), .ref (zz_ad (mg_G q) 11), .ref (zz_ad (mg_G q) 12), .ref (zz_ad (mg_G q) 13), .ref (zz_ad (mg_G q) 14), .ref (zz_ad (mg_G q) 15), .ref (zz_ad (mg_G q) 16), .int (f 19), .ref (zz_ad (mg_G q) 17), .ref (zz_ad (mg_G q) 18), .int (f 22), .int (f 23), .int (f 24), .ref (zz_ad (mg_G q) 19), .ref (zz_ad (mg_G q) 20), .ref (zz_ad (mg_G q) 21), .ref (zz_ad (mg_G q) 22), .ref (zz_ad (mg_G q) 23), .ref (zz_ad (mg_G q) 24), .ref (zz_ad (mg_G q) 25), .ref (zz_ad (mg_G q) 26), .ref (zz_ad (mg_G q) 27), .ref (zz_ad (mg_G q) 28), .ref (zz_ad (mg_G q) 29), .ref (zz_ad (mg_G q) 30), .ref (zz_ad (mg_G q) 31), .ref (zz_ad (mg_G q) 32)]) := rfl
theorem mc_1 (q : xg_T) (f : Nat → Int32) (g : Nat → Int64) : zz_y (mg_G q) 1 f g = .inl (q.2.2.1, 24, .inl f) := rfl
theorem mc_2 (q : xg_T) (f : Nat → Int32) (g : Nat → Int64) : zz_y (mg_G q) 2 f g = .inl (q.2.2.1, 24, .inl f) := rfl
theorem mc_3 (q : xg_T) (f : Nat → Int32) (g : Nat → Int64) : zz_y (mg_G q) 3 f g = .inl (q.2.2.1, 24, .inl f) := rfl
theorem mc_4 (q : xg_T) (f : Nat → Int32) (g : Nat → Int64) : zz_y (mg_G q) 4 f g = .inl (q.2.2.1, 24, .inl f) := rfl
theorem mc_5 (q : xg_T) (f : Nat → Int32) (g : Nat → Int64) : zz_y (mg_G q) 5 f g = .inl (q.2.2.1, 24, .inl f) := rfl
theorem mc_6 (q : xg_T) (f : Nat → Int32) (g : Nat → Int64) : zz_y (mg_G q) 6 f g = .inl (q.2.2.1, 40, .inl f) := rfl
theorem mc_7 (q : xg_T) (f : Nat → Int32) (g : Nat → Int64) : zz_y (mg_G q) 7 f g = .inl (q.2.2.1, 40, .inl f) := rfl
theorem mc_8 (q : xg_T) (f : Nat → Int32) (g : Nat → Int64) : zz_y (mg_G q) 8 f g = .inl (q.2.2.1, 40, .inl f) := rfl
theorem mc_9 (q : xg_T) (f : Nat → Int32) (g : Nat → Int64) : zz_y (mg_G q) 9 f g = .inl (q.2.2.1, 40, .inl f) := rfl
theorem mc_10 (q : xg_T) (f : Nat → Int32) (g : Nat → Int64) : zz_y (mg_G q) 10 f g = .inl (q.2.2.1, 40, .inl f) := rfl
theorem mc_11 (q : xg_T) (f : Nat → Int32) (g : Nat → Int64) : zz_y (mg_G q) 11 f g = .inl (q.2.2.2.1, 160, .inr (.inl g)) := rfl
theorem mc_12 (q : xg_T) (f : Nat → Int32) (g : Nat → Int64) : zz_y (mg_G q) 12 f g = .inl (q.2.2.1, 160, .inl f) := rfl
theorem mc_13 (q : xg_T) (f : Nat → Int32) (g : Nat → Int64) : zz_y (mg_G q) 13 f g = .inl (q.2.2.2.1, 4, .inr (.inl g)) := rfl
theorem mc_14 (q : xg_T) (f : Nat → Int32) (g : Nat → Int64) : zz_y (mg_G q) 14 f g = .inl (q.2.2.2.1, 4, .inr (.inl g)) := rfl
theorem mc_15 (q : xg_T) (f : Nat → Int32) (g : Nat → Int64) : zz_y (mg_G q) 15 f g = .inl (q.2.2.2.1, 4, .inr (.inl g)) := rfl
theorem mc_16 (q : xg_T) (f : Nat → Int32) (g : Nat → Int64) : zz_y (mg_G q) 16 f g = .inl (q.2.2.1, 4, .inl f) := rfl
theorem mc_17 (q : xg_T) (f : Nat → Int32) (g : Nat → Int64) : zz_y (mg_G q) 17 f g = .inl (q.2.2.2.1, 164, .inr (.inl g)) := rfl
theorem mc_18 (q : xg_T) (f : Nat → Int32) (g : Nat → Int64) : zz_y (mg_G q) 18 f g = .inl (q.2.2.1, 164, .inl f) := rfl
theorem mc_19 (q : xg_T) (f : Nat → Int32) (g : Nat → Int64) : zz_y (mg_G q) 19 f g = .inl (q.2.2.1, 160, .inl f) := rfl
theorem mc_20 (q : xg_T) (f : Nat → Int32) (g : Nat → Int64) : zz_y (mg_G q) 20 f g = .inl (q.2.2.1, 160, .inl f) := rfl
theorem mc_21 (q : xg_T) (f : Nat → Int32) (g : Nat → Int64) : zz_y (mg_G q) 21 f g = .inl (q.2.2.1, 160, .inl f) := rfl
theorem mc_22 (q : xg_T) (f : Nat → Int32) (g : Nat → Int64) : zz_y (mg_G q) 22 f g = .inl (q.2.2.1, 160, .inl f) := rfl
theorem mc_23 (q : xg_T) (f : Nat → Int32) (g : Nat → Int64) : zz_y (mg_G q) 23 f g = .inl (q.2.2.1, 160, .inl f) := rfl
theorem mc_24 (q : xg_T) (f : Nat → Int32) (g : Nat → Int64) : zz_y (mg_G q) 24 f g = .inl (q.2.2.1, 160, .inl f) := rfl
theorem mc_25 (q : xg_T) (f : Nat → Int32) (g : Nat → Int64) : zz_y (mg_G q) 25 f g = .inl (q.2.2.1, 160, .inl f) := rfl
theorem mc_26 (q : xg_T) (f : Nat → Int32) (g : Nat → Int64) : zz_y (mg_G q) 26 f g = .inl (q.2.2.1, 160, .inl f) := rfl
theorem mc_27 (q : xg_T) (f : Nat → Int32) (g : Nat → Int64) : zz_y (mg_G q) 27 f g = .inl (q.2.2.1, 160, .inl f) := rfl
theorem mc_28 (q : xg_T) (f : Nat → Int32) (g : Nat → Int64) : zz_y (mg_G q) 28 f g = .inl (q.2.2.1, 40, .inl f) := rfl
theorem mc_29 (q : xg_T) (f : Nat → Int32) (g : Nat → Int64) : zz_y (mg_G q) 29 f g = .inl (q.2.2.1, 40, .inl f) := rfl
theorem mc_30 (q : xg_T) (f : Nat → Int32) (g : Nat → Int64) : zz_y (mg_G q) 30 f g = .inl (q.2.2.1, 8, .inl f) := rfl
theorem mc_31 (q : xg_T) (f : Nat → Int32) (g : Nat → Int64) : zz_y (mg_G q) 31 f g = .inl (q.2.2.1, 8, .inl f) := rfl
theorem mc_32 (q : xg_T) (f : Nat → Int32) (g : Nat → Int64) : zz_y (mg_G q) 32 f g = .inl (q.2.2.1, 40, .inl f) := rfl
end
section
/-! What stands at each place of the code. -/
theorem d_Forge_init_0 : decode b_Forge_init 0 = .ok (.aload_n 0, 1) := by decide +kernel
theorem d_Forge_init_1 : decode b_Forge_init 1 = .ok (.invokespecial 3, 3) := by decide +kernel
theorem d_Forge_init_4 : decode b_Forge_init 4 = .ok (.aload_n 0, 1) := by decide +kernel
theorem d_Forge_init_5 : decode b_Forge_init 5 = .ok (.new 9, 3) := by decide +kernel
theorem d_Forge_init_8 : decode b_Forge_init 8 = .ok (.dup, 1) := by decide +kernel
theorem d_Forge_init_9 : decode b_Forge_init 9 = .ok (.invokespecial 11, 3) := by decide +kernel
theorem d_Forge_init_12 : decode b_Forge_init 12 = .ok (.putfield 12, 3) := by decide +kernel
theorem d_Forge_init_15 : decode b_Forge_init 15 = .ok (.aload_n 0, 1) := by decide +kernel
theorem d_Forge_init_16 : decode b_Forge_init 16 = .ok (.new 16, 3) := by decide +kernel
theorem d_Forge_init_19 : decode b_Forge_init 19 = .ok (.dup, 1) := by decide +kernel
theorem d_Forge_init_20 : decode b_Forge_init 20 = .ok (.invokespecial 18, 3) := by decide +kernel
theorem d_Forge_init_23 : decode b_Forge_init 23 = .ok (.putfield 19, 3) := by decide +kernel
theorem d_Forge_init_26 : decode b_Forge_init 26 = .ok (.aload_n 0, 1) := by decide +kernel
theorem d_Forge_init_27 : decode b_Forge_init 27 = .ok (.new 23, 3) := by decide +kernel
theorem d_Forge_init_30 : decode b_Forge_init 30 = .ok (.dup, 1) := by decide +kernel
theorem d_Forge_init_31 : decode b_Forge_init 31 = .ok (.invokespecial 25, 3) := by decide +kernel
theorem d_Forge_init_34 : decode b_Forge_init 34 = .ok (.putfield 26, 3) := by decide +kernel
theorem d_Forge_init_37 : decode b_Forge_init 37 = .ok (.aload_n 0, 1) := by decide +kernel
theorem d_Forge_init_38 : decode b_Forge_init 38 = .ok (.new 30, 3) := by decide +kernel
theorem d_Forge_init_41 : decode b_Forge_init 41 = .ok (.dup, 1) := by decide +kernel
theorem d_Forge_init_42 : decode b_Forge_init 42 = .ok (.invokespecial 32, 3) := by decide +kernel
theorem d_Forge_init_45 : decode b_Forge_init 45 = .ok (.putfield 33, 3) := by decide +kernel
theorem d_Forge_init_48 : decode b_Forge_init 48 = .ok (.aload_n 0, 1) := by decide +kernel
theorem d_Forge_init_49 : decode b_Forge_init 49 = .ok (.bipush 8, 2) := by decide +kernel
theorem d_Forge_init_51 : decode b_Forge_init 51 = .ok (.newarray .int, 2) := by decide +kernel
theorem d_Forge_init_53 : decode b_Forge_init 53 = .ok (.putfield 37, 3) := by decide +kernel
theorem d_Forge_init_56 : decode b_Forge_init 56 = .ok (.aload_n 0, 1) := by decide +kernel
theorem d_Forge_init_57 : decode b_Forge_init 57 = .ok (.iconst 3, 1) := by decide +kernel
theorem d_Forge_init_58 : decode b_Forge_init 58 = .ok (.putfield 41, 3) := by decide +kernel
theorem d_Forge_init_61 : decode b_Forge_init 61 = .ok (.return_, 1) := by decide +kernel
theorem d_Book_init_0 : decode b_Book_init 0 = .ok (.aload_n 0, 1) := by decide +kernel
theorem d_Book_init_1 : decode b_Book_init 1 = .ok (.invokespecial 3, 3) := by decide +kernel
theorem d_Book_init_4 : decode b_Book_init 4 = .ok (.aload_n 0, 1) := by decide +kernel
theorem d_Book_init_5 : decode b_Book_init 5 = .ok (.bipush 24, 2) := by decide +kernel
theorem d_Book_init_7 : decode b_Book_init 7 = .ok (.newarray .int, 2) := by decide +kernel
theorem d_Book_init_9 : decode b_Book_init 9 = .ok (.putfield 9, 3) := by decide +kernel
theorem d_Book_init_12 : decode b_Book_init 12 = .ok (.aload_n 0, 1) := by decide +kernel
theorem d_Book_init_13 : decode b_Book_init 13 = .ok (.bipush 24, 2) := by decide +kernel
theorem d_Book_init_15 : decode b_Book_init 15 = .ok (.newarray .int, 2) := by decide +kernel
theorem d_Book_init_17 : decode b_Book_init 17 = .ok (.putfield 15, 3) := by decide +kernel
theorem d_Book_init_20 : decode b_Book_init 20 = .ok (.aload_n 0, 1) := by decide +kernel
theorem d_Book_init_21 : decode b_Book_init 21 = .ok (.bipush 24, 2) := by decide +kernel
theorem d_Book_init_23 : decode b_Book_init 23 = .ok (.newarray .int, 2) := by decide +kernel
theorem d_Book_init_25 : decode b_Book_init 25 = .ok (.putfield 18, 3) := by decide +kernel
theorem d_Book_init_28 : decode b_Book_init 28 = .ok (.aload_n 0, 1) := by decide +kernel
theorem d_Book_init_29 : decode b_Book_init 29 = .ok (.bipush 24, 2) := by decide +kernel
theorem d_Book_init_31 : decode b_Book_init 31 = .ok (.newarray .int, 2) := by decide +kernel
theorem d_Book_init_33 : decode b_Book_init 33 = .ok (.putfield 21, 3) := by decide +kernel
theorem d_Book_init_36 : decode b_Book_init 36 = .ok (.aload_n 0, 1) := by decide +kernel
theorem d_Book_init_37 : decode b_Book_init 37 = .ok (.bipush 24, 2) := by decide +kernel
theorem d_Book_init_39 : decode b_Book_init 39 = .ok (.newarray .int, 2) := by decide +kernel
theorem d_Book_init_41 : decode b_Book_init 41 = .ok (.putfield 24, 3) := by decide +kernel
theorem d_Book_init_44 : decode b_Book_init 44 = .ok (.aload_n 0, 1) := by decide +kernel
theorem d_Book_init_45 : decode b_Book_init 45 = .ok (.bipush 9, 2) := by decide +kernel
theorem d_Book_init_47 : decode b_Book_init 47 = .ok (.bipush 24, 2) := by decide +kernel
theorem d_Book_init_49 : decode b_Book_init 49 = .ok (.multianewarray 27 2, 4) := by decide +kernel
theorem d_Book_init_53 : decode b_Book_init 53 = .ok (.putfield 29, 3) := by decide +kernel
theorem d_Book_init_56 : decode b_Book_init 56 = .ok (.aload_n 0, 1) := by decide +kernel
theorem d_Book_init_57 : decode b_Book_init 57 = .ok (.bipush 9, 2) := by decide +kernel
theorem d_Book_init_59 : decode b_Book_init 59 = .ok (.newarray .int, 2) := by decide +kernel
theorem d_Book_init_61 : decode b_Book_init 61 = .ok (.putfield 32, 3) := by decide +kernel
theorem d_Book_init_64 : decode b_Book_init 64 = .ok (.return_, 1) := by decide +kernel
theorem d_Label_init_0 : decode b_Label_init 0 = .ok (.aload_n 0, 1) := by decide +kernel
theorem d_Label_init_1 : decode b_Label_init 1 = .ok (.invokespecial 3, 3) := by decide +kernel
theorem d_Label_init_4 : decode b_Label_init 4 = .ok (.aload_n 0, 1) := by decide +kernel
theorem d_Label_init_5 : decode b_Label_init 5 = .ok (.iconst 4, 1) := by decide +kernel
theorem d_Label_init_6 : decode b_Label_init 6 = .ok (.newarray .long, 2) := by decide +kernel
theorem d_Label_init_8 : decode b_Label_init 8 = .ok (.putfield 9, 3) := by decide +kernel
theorem d_Label_init_11 : decode b_Label_init 11 = .ok (.aload_n 0, 1) := by decide +kernel
theorem d_Label_init_12 : decode b_Label_init 12 = .ok (.iconst 4, 1) := by decide +kernel
theorem d_Label_init_13 : decode b_Label_init 13 = .ok (.newarray .int, 2) := by decide +kernel
theorem d_Label_init_15 : decode b_Label_init 15 = .ok (.putfield 15, 3) := by decide +kernel
theorem d_Label_init_18 : decode b_Label_init 18 = .ok (.return_, 1) := by decide +kernel
theorem d_Table_init_0 : decode b_Table_init 0 = .ok (.aload_n 0, 1) := by decide +kernel
theorem d_Table_init_1 : decode b_Table_init 1 = .ok (.invokespecial 3, 3) := by decide +kernel
theorem d_Table_init_4 : decode b_Table_init 4 = .ok (.aload_n 0, 1) := by decide +kernel
theorem d_Table_init_5 : decode b_Table_init 5 = .ok (.bipush 41, 2) := by decide +kernel
theorem d_Table_init_7 : decode b_Table_init 7 = .ok (.anewarray 9, 3) := by decide +kernel
theorem d_Table_init_10 : decode b_Table_init 10 = .ok (.putfield 11, 3) := by decide +kernel
theorem d_Table_init_13 : decode b_Table_init 13 = .ok (.aload_n 0, 1) := by decide +kernel
theorem d_Table_init_14 : decode b_Table_init 14 = .ok (.new 9, 3) := by decide +kernel
theorem d_Table_init_17 : decode b_Table_init 17 = .ok (.dup, 1) := by decide +kernel
theorem d_Table_init_18 : decode b_Table_init 18 = .ok (.invokespecial 17, 3) := by decide +kernel
theorem d_Table_init_21 : decode b_Table_init 21 = .ok (.putfield 18, 3) := by decide +kernel
theorem d_Table_init_24 : decode b_Table_init 24 = .ok (.aload_n 0, 1) := by decide +kernel
theorem d_Table_init_25 : decode b_Table_init 25 = .ok (.iconst 0, 1) := by decide +kernel
theorem d_Table_init_26 : decode b_Table_init 26 = .ok (.putfield 22, 3) := by decide +kernel
theorem d_Table_init_29 : decode b_Table_init 29 = .ok (.iconst 0, 1) := by decide +kernel
theorem d_Table_init_30 : decode b_Table_init 30 = .ok (.istore_n 1, 1) := by decide +kernel
theorem d_Table_init_31 : decode b_Table_init 31 = .ok (.iload_n 1, 1) := by decide +kernel
theorem d_Table_init_32 : decode b_Table_init 32 = .ok (.aload_n 0, 1) := by decide +kernel
theorem d_Table_init_33 : decode b_Table_init 33 = .ok (.getfield 11, 3) := by decide +kernel
theorem d_Table_init_36 : decode b_Table_init 36 = .ok (.arraylength, 1) := by decide +kernel
theorem d_Table_init_37 : decode b_Table_init 37 = .ok (.if_icmp .ge 22, 3) := by decide +kernel
theorem d_Table_init_40 : decode b_Table_init 40 = .ok (.aload_n 0, 1) := by decide +kernel
theorem d_Table_init_41 : decode b_Table_init 41 = .ok (.getfield 11, 3) := by decide +kernel
theorem d_Table_init_44 : decode b_Table_init 44 = .ok (.iload_n 1, 1) := by decide +kernel
theorem d_Table_init_45 : decode b_Table_init 45 = .ok (.new 9, 3) := by decide +kernel
theorem d_Table_init_48 : decode b_Table_init 48 = .ok (.dup, 1) := by decide +kernel
theorem d_Table_init_49 : decode b_Table_init 49 = .ok (.invokespecial 17, 3) := by decide +kernel
theorem d_Table_init_52 : decode b_Table_init 52 = .ok (.aastore, 1) := by decide +kernel
theorem d_Table_init_53 : decode b_Table_init 53 = .ok (.iinc 1 1, 3) := by decide +kernel
theorem d_Table_init_56 : decode b_Table_init 56 = .ok (.goto (-25), 3) := by decide +kernel
theorem d_Table_init_59 : decode b_Table_init 59 = .ok (.return_, 1) := by decide +kernel
theorem d_Forge_rule_0 : decode b_Forge_rule 0 = .ok (.iload_n 1, 1) := by decide +kernel
theorem d_Forge_rule_1 : decode b_Forge_rule 1 = .ok (.invokestatic 45, 3) := by decide +kernel
theorem d_Forge_rule_4 : decode b_Forge_rule 4 = .ok (.ifCond .eq 48, 3) := by decide +kernel
theorem d_Forge_rule_7 : decode b_Forge_rule 7 = .ok (.iload_n 2, 1) := by decide +kernel
theorem d_Forge_rule_8 : decode b_Forge_rule 8 = .ok (.ifCond .lt 44, 3) := by decide +kernel
theorem d_Forge_rule_11 : decode b_Forge_rule 11 = .ok (.iload_n 2, 1) := by decide +kernel
theorem d_Forge_rule_12 : decode b_Forge_rule 12 = .ok (.bipush 8, 2) := by decide +kernel
theorem d_Forge_rule_14 : decode b_Forge_rule 14 = .ok (.if_icmp .gt 38, 3) := by decide +kernel
theorem d_Forge_rule_17 : decode b_Forge_rule 17 = .ok (.iload_n 3, 1) := by decide +kernel
theorem d_Forge_rule_18 : decode b_Forge_rule 18 = .ok (.invokestatic 45, 3) := by decide +kernel
theorem d_Forge_rule_21 : decode b_Forge_rule 21 = .ok (.ifCond .eq 31, 3) := by decide +kernel
theorem d_Forge_rule_24 : decode b_Forge_rule 24 = .ok (.iload 4, 2) := by decide +kernel
theorem d_Forge_rule_26 : decode b_Forge_rule 26 = .ok (.invokestatic 45, 3) := by decide +kernel
theorem d_Forge_rule_29 : decode b_Forge_rule 29 = .ok (.ifCond .eq 23, 3) := by decide +kernel
theorem d_Forge_rule_32 : decode b_Forge_rule 32 = .ok (.iload_n 1, 1) := by decide +kernel
theorem d_Forge_rule_33 : decode b_Forge_rule 33 = .ok (.iload_n 2, 1) := by decide +kernel
theorem d_Forge_rule_34 : decode b_Forge_rule 34 = .ok (.iload_n 3, 1) := by decide +kernel
theorem d_Forge_rule_35 : decode b_Forge_rule 35 = .ok (.iload 4, 2) := by decide +kernel
theorem d_Forge_rule_37 : decode b_Forge_rule 37 = .ok (.invokestatic 49, 3) := by decide +kernel
theorem d_Forge_rule_40 : decode b_Forge_rule 40 = .ok (.ifCond .eq 12, 3) := by decide +kernel
theorem d_Forge_rule_43 : decode b_Forge_rule 43 = .ok (.iload_n 2, 1) := by decide +kernel
theorem d_Forge_rule_44 : decode b_Forge_rule 44 = .ok (.iload 5, 2) := by decide +kernel
theorem d_Forge_rule_46 : decode b_Forge_rule 46 = .ok (.invokestatic 53, 3) := by decide +kernel
theorem d_Forge_rule_49 : decode b_Forge_rule 49 = .ok (.ifCond .ne 5, 3) := by decide +kernel
theorem d_Forge_rule_52 : decode b_Forge_rule 52 = .ok (.iconst (-1), 1) := by decide +kernel
theorem d_Forge_rule_53 : decode b_Forge_rule 53 = .ok (.ireturn, 1) := by decide +kernel
theorem d_Forge_rule_54 : decode b_Forge_rule 54 = .ok (.aload_n 0, 1) := by decide +kernel
theorem d_Forge_rule_55 : decode b_Forge_rule 55 = .ok (.getfield 12, 3) := by decide +kernel
theorem d_Forge_rule_58 : decode b_Forge_rule 58 = .ok (.getfield 57, 3) := by decide +kernel
theorem d_Forge_rule_61 : decode b_Forge_rule 61 = .ok (.bipush 24, 2) := by decide +kernel
theorem d_Forge_rule_63 : decode b_Forge_rule 63 = .ok (.if_icmp .ne 6, 3) := by decide +kernel
theorem d_Forge_rule_66 : decode b_Forge_rule 66 = .ok (.bipush (-2), 2) := by decide +kernel
theorem d_Forge_rule_68 : decode b_Forge_rule 68 = .ok (.ireturn, 1) := by decide +kernel
theorem d_Forge_rule_69 : decode b_Forge_rule 69 = .ok (.aload_n 0, 1) := by decide +kernel
theorem d_Forge_rule_70 : decode b_Forge_rule 70 = .ok (.invokevirtual 60, 3) := by decide +kernel
theorem d_Forge_rule_73 : decode b_Forge_rule 73 = .ok (.aload_n 0, 1) := by decide +kernel
theorem d_Forge_rule_74 : decode b_Forge_rule 74 = .ok (.getfield 12, 3) := by decide +kernel
theorem d_Forge_rule_77 : decode b_Forge_rule 77 = .ok (.iload_n 1, 1) := by decide +kernel
theorem d_Forge_rule_78 : decode b_Forge_rule 78 = .ok (.iload_n 2, 1) := by decide +kernel
theorem d_Forge_rule_79 : decode b_Forge_rule 79 = .ok (.iload_n 3, 1) := by decide +kernel
theorem d_Forge_rule_80 : decode b_Forge_rule 80 = .ok (.iload 4, 2) := by decide +kernel
theorem d_Forge_rule_82 : decode b_Forge_rule 82 = .ok (.iload 5, 2) := by decide +kernel
theorem d_Forge_rule_84 : decode b_Forge_rule 84 = .ok (.invokevirtual 63, 3) := by decide +kernel
theorem d_Forge_rule_87 : decode b_Forge_rule 87 = .ok (.ireturn, 1) := by decide +kernel
theorem d_Forge_isKind_0 : decode b_Forge_isKind 0 = .ok (.iload_n 0, 1) := by decide +kernel
theorem d_Forge_isKind_1 : decode b_Forge_isKind 1 = .ok (.ifCond .lt 12, 3) := by decide +kernel
theorem d_Forge_isKind_4 : decode b_Forge_isKind 4 = .ok (.iload_n 0, 1) := by decide +kernel
theorem d_Forge_isKind_5 : decode b_Forge_isKind 5 = .ok (.iconst 4, 1) := by decide +kernel
theorem d_Forge_isKind_6 : decode b_Forge_isKind 6 = .ok (.if_icmp .ge 7, 3) := by decide +kernel
theorem d_Forge_isKind_9 : decode b_Forge_isKind 9 = .ok (.iconst 1, 1) := by decide +kernel
theorem d_Forge_isKind_10 : decode b_Forge_isKind 10 = .ok (.goto 4, 3) := by decide +kernel
theorem d_Forge_isKind_13 : decode b_Forge_isKind 13 = .ok (.iconst 0, 1) := by decide +kernel
theorem d_Forge_isKind_14 : decode b_Forge_isKind 14 = .ok (.ireturn, 1) := by decide +kernel
theorem d_Forge_fitsOperator_0 : decode b_Forge_fitsOperator 0 = .ok (.iload_n 1, 1) := by decide +kernel
theorem d_Forge_fitsOperator_1 : decode b_Forge_fitsOperator 1 = .ok (.bipush 8, 2) := by decide +kernel
theorem d_Forge_fitsOperator_3 : decode b_Forge_fitsOperator 3 = .ok (.if_icmp .ne 18, 3) := by decide +kernel
theorem d_Forge_fitsOperator_6 : decode b_Forge_fitsOperator 6 = .ok (.iload_n 2, 1) := by decide +kernel
theorem d_Forge_fitsOperator_7 : decode b_Forge_fitsOperator 7 = .ok (.iload_n 0, 1) := by decide +kernel
theorem d_Forge_fitsOperator_8 : decode b_Forge_fitsOperator 8 = .ok (.if_icmp .eq 11, 3) := by decide +kernel
theorem d_Forge_fitsOperator_11 : decode b_Forge_fitsOperator 11 = .ok (.iload_n 3, 1) := by decide +kernel
theorem d_Forge_fitsOperator_12 : decode b_Forge_fitsOperator 12 = .ok (.ifCond .ne 7, 3) := by decide +kernel
theorem d_Forge_fitsOperator_15 : decode b_Forge_fitsOperator 15 = .ok (.iconst 1, 1) := by decide +kernel
theorem d_Forge_fitsOperator_16 : decode b_Forge_fitsOperator 16 = .ok (.goto 4, 3) := by decide +kernel
theorem d_Forge_fitsOperator_19 : decode b_Forge_fitsOperator 19 = .ok (.iconst 0, 1) := by decide +kernel
theorem d_Forge_fitsOperator_20 : decode b_Forge_fitsOperator 20 = .ok (.ireturn, 1) := by decide +kernel
theorem d_Forge_fitsOperator_21 : decode b_Forge_fitsOperator 21 = .ok (.getstatic 83, 3) := by decide +kernel
theorem d_Forge_fitsOperator_24 : decode b_Forge_fitsOperator 24 = .ok (.iload_n 1, 1) := by decide +kernel
theorem d_Forge_fitsOperator_25 : decode b_Forge_fitsOperator 25 = .ok (.iaload, 1) := by decide +kernel
theorem d_Forge_fitsOperator_26 : decode b_Forge_fitsOperator 26 = .ok (.iconst 1, 1) := by decide +kernel
theorem d_Forge_fitsOperator_27 : decode b_Forge_fitsOperator 27 = .ok (.if_icmp .ge 7, 3) := by decide +kernel
theorem d_Forge_fitsOperator_30 : decode b_Forge_fitsOperator 30 = .ok (.iload_n 2, 1) := by decide +kernel
theorem d_Forge_fitsOperator_31 : decode b_Forge_fitsOperator 31 = .ok (.ifCond .ne 20, 3) := by decide +kernel
theorem d_Forge_fitsOperator_34 : decode b_Forge_fitsOperator 34 = .ok (.getstatic 83, 3) := by decide +kernel
theorem d_Forge_fitsOperator_37 : decode b_Forge_fitsOperator 37 = .ok (.iload_n 1, 1) := by decide +kernel
theorem d_Forge_fitsOperator_38 : decode b_Forge_fitsOperator 38 = .ok (.iaload, 1) := by decide +kernel
theorem d_Forge_fitsOperator_39 : decode b_Forge_fitsOperator 39 = .ok (.iconst 2, 1) := by decide +kernel
theorem d_Forge_fitsOperator_40 : decode b_Forge_fitsOperator 40 = .ok (.if_icmp .eq 7, 3) := by decide +kernel
theorem d_Forge_fitsOperator_43 : decode b_Forge_fitsOperator 43 = .ok (.iload_n 3, 1) := by decide +kernel
theorem d_Forge_fitsOperator_44 : decode b_Forge_fitsOperator 44 = .ok (.ifCond .ne 7, 3) := by decide +kernel
theorem d_Forge_fitsOperator_47 : decode b_Forge_fitsOperator 47 = .ok (.iconst 1, 1) := by decide +kernel
theorem d_Forge_fitsOperator_48 : decode b_Forge_fitsOperator 48 = .ok (.goto 4, 3) := by decide +kernel
theorem d_Forge_fitsOperator_51 : decode b_Forge_fitsOperator 51 = .ok (.iconst 0, 1) := by decide +kernel
theorem d_Forge_fitsOperator_52 : decode b_Forge_fitsOperator 52 = .ok (.ireturn, 1) := by decide +kernel
theorem d_Forge_isCostFor_0 : decode b_Forge_isCostFor 0 = .ok (.iload_n 1, 1) := by decide +kernel
theorem d_Forge_isCostFor_1 : decode b_Forge_isCostFor 1 = .ok (.iload_n 0, 1) := by decide +kernel
theorem d_Forge_isCostFor_2 : decode b_Forge_isCostFor 2 = .ok (.bipush 8, 2) := by decide +kernel
theorem d_Forge_isCostFor_4 : decode b_Forge_isCostFor 4 = .ok (.if_icmp .ne 7, 3) := by decide +kernel
theorem d_Forge_isCostFor_7 : decode b_Forge_isCostFor 7 = .ok (.iconst 1, 1) := by decide +kernel
theorem d_Forge_isCostFor_8 : decode b_Forge_isCostFor 8 = .ok (.goto 4, 3) := by decide +kernel
theorem d_Forge_isCostFor_11 : decode b_Forge_isCostFor 11 = .ok (.iconst 0, 1) := by decide +kernel
theorem d_Forge_isCostFor_12 : decode b_Forge_isCostFor 12 = .ok (.if_icmp .lt 13, 3) := by decide +kernel
theorem d_Forge_isCostFor_15 : decode b_Forge_isCostFor 15 = .ok (.iload_n 1, 1) := by decide +kernel
theorem d_Forge_isCostFor_16 : decode b_Forge_isCostFor 16 = .ok (.bipush 9, 2) := by decide +kernel
theorem d_Forge_isCostFor_18 : decode b_Forge_isCostFor 18 = .ok (.if_icmp .gt 7, 3) := by decide +kernel
theorem d_Forge_isCostFor_21 : decode b_Forge_isCostFor 21 = .ok (.iconst 1, 1) := by decide +kernel
theorem d_Forge_isCostFor_22 : decode b_Forge_isCostFor 22 = .ok (.goto 4, 3) := by decide +kernel
theorem d_Forge_isCostFor_25 : decode b_Forge_isCostFor 25 = .ok (.iconst 0, 1) := by decide +kernel
theorem d_Forge_isCostFor_26 : decode b_Forge_isCostFor 26 = .ok (.ireturn, 1) := by decide +kernel
theorem d_Forge_forgetConclusions_0 : decode b_Forge_forgetConclusions 0 = .ok (.aload_n 0, 1) := by decide +kernel
theorem d_Forge_forgetConclusions_1 : decode b_Forge_forgetConclusions 1 = .ok (.getfield 26, 3) := by decide +kernel
theorem d_Forge_forgetConclusions_4 : decode b_Forge_forgetConclusions 4 = .ok (.iconst 0, 1) := by decide +kernel
theorem d_Forge_forgetConclusions_5 : decode b_Forge_forgetConclusions 5 = .ok (.putfield 70, 3) := by decide +kernel
theorem d_Forge_forgetConclusions_8 : decode b_Forge_forgetConclusions 8 = .ok (.aload_n 0, 1) := by decide +kernel
theorem d_Forge_forgetConclusions_9 : decode b_Forge_forgetConclusions 9 = .ok (.getfield 19, 3) := by decide +kernel
theorem d_Forge_forgetConclusions_12 : decode b_Forge_forgetConclusions 12 = .ok (.iconst 0, 1) := by decide +kernel
theorem d_Forge_forgetConclusions_13 : decode b_Forge_forgetConclusions 13 = .ok (.putfield 152, 3) := by decide +kernel
theorem d_Forge_forgetConclusions_16 : decode b_Forge_forgetConclusions 16 = .ok (.return_, 1) := by decide +kernel
theorem d_Book_add_0 : decode b_Book_add 0 = .ok (.aload_n 0, 1) := by decide +kernel
theorem d_Book_add_1 : decode b_Book_add 1 = .ok (.getfield 35, 3) := by decide +kernel
theorem d_Book_add_4 : decode b_Book_add 4 = .ok (.istore 6, 2) := by decide +kernel
theorem d_Book_add_6 : decode b_Book_add 6 = .ok (.aload_n 0, 1) := by decide +kernel
theorem d_Book_add_7 : decode b_Book_add 7 = .ok (.getfield 9, 3) := by decide +kernel
theorem d_Book_add_10 : decode b_Book_add 10 = .ok (.iload 6, 2) := by decide +kernel
theorem d_Book_add_12 : decode b_Book_add 12 = .ok (.iload_n 1, 1) := by decide +kernel
theorem d_Book_add_13 : decode b_Book_add 13 = .ok (.iastore, 1) := by decide +kernel
theorem d_Book_add_14 : decode b_Book_add 14 = .ok (.aload_n 0, 1) := by decide +kernel
theorem d_Book_add_15 : decode b_Book_add 15 = .ok (.getfield 15, 3) := by decide +kernel
theorem d_Book_add_18 : decode b_Book_add 18 = .ok (.iload 6, 2) := by decide +kernel
theorem d_Book_add_20 : decode b_Book_add 20 = .ok (.iload_n 2, 1) := by decide +kernel
theorem d_Book_add_21 : decode b_Book_add 21 = .ok (.iastore, 1) := by decide +kernel
theorem d_Book_add_22 : decode b_Book_add 22 = .ok (.aload_n 0, 1) := by decide +kernel
theorem d_Book_add_23 : decode b_Book_add 23 = .ok (.getfield 18, 3) := by decide +kernel
theorem d_Book_add_26 : decode b_Book_add 26 = .ok (.iload 6, 2) := by decide +kernel
theorem d_Book_add_28 : decode b_Book_add 28 = .ok (.iload_n 3, 1) := by decide +kernel
theorem d_Book_add_29 : decode b_Book_add 29 = .ok (.iastore, 1) := by decide +kernel
theorem d_Book_add_30 : decode b_Book_add 30 = .ok (.aload_n 0, 1) := by decide +kernel
theorem d_Book_add_31 : decode b_Book_add 31 = .ok (.getfield 21, 3) := by decide +kernel
theorem d_Book_add_34 : decode b_Book_add 34 = .ok (.iload 6, 2) := by decide +kernel
theorem d_Book_add_36 : decode b_Book_add 36 = .ok (.iload 4, 2) := by decide +kernel
theorem d_Book_add_38 : decode b_Book_add 38 = .ok (.iastore, 1) := by decide +kernel
theorem d_Book_add_39 : decode b_Book_add 39 = .ok (.aload_n 0, 1) := by decide +kernel
theorem d_Book_add_40 : decode b_Book_add 40 = .ok (.getfield 24, 3) := by decide +kernel
theorem d_Book_add_43 : decode b_Book_add 43 = .ok (.iload 6, 2) := by decide +kernel
theorem d_Book_add_45 : decode b_Book_add 45 = .ok (.iload 5, 2) := by decide +kernel
theorem d_Book_add_47 : decode b_Book_add 47 = .ok (.iastore, 1) := by decide +kernel
theorem d_Book_add_48 : decode b_Book_add 48 = .ok (.aload_n 0, 1) := by decide +kernel
theorem d_Book_add_49 : decode b_Book_add 49 = .ok (.getfield 29, 3) := by decide +kernel
theorem d_Book_add_52 : decode b_Book_add 52 = .ok (.iload_n 2, 1) := by decide +kernel
theorem d_Book_add_53 : decode b_Book_add 53 = .ok (.aaload, 1) := by decide +kernel
theorem d_Book_add_54 : decode b_Book_add 54 = .ok (.aload_n 0, 1) := by decide +kernel
theorem d_Book_add_55 : decode b_Book_add 55 = .ok (.getfield 32, 3) := by decide +kernel
theorem d_Book_add_58 : decode b_Book_add 58 = .ok (.iload_n 2, 1) := by decide +kernel
theorem d_Book_add_59 : decode b_Book_add 59 = .ok (.iaload, 1) := by decide +kernel
theorem d_Book_add_60 : decode b_Book_add 60 = .ok (.iload 6, 2) := by decide +kernel
theorem d_Book_add_62 : decode b_Book_add 62 = .ok (.iastore, 1) := by decide +kernel
theorem d_Book_add_63 : decode b_Book_add 63 = .ok (.aload_n 0, 1) := by decide +kernel
theorem d_Book_add_64 : decode b_Book_add 64 = .ok (.getfield 32, 3) := by decide +kernel
theorem d_Book_add_67 : decode b_Book_add 67 = .ok (.iload_n 2, 1) := by decide +kernel
theorem d_Book_add_68 : decode b_Book_add 68 = .ok (.dup2, 1) := by decide +kernel
theorem d_Book_add_69 : decode b_Book_add 69 = .ok (.iaload, 1) := by decide +kernel
theorem d_Book_add_70 : decode b_Book_add 70 = .ok (.iconst 1, 1) := by decide +kernel
theorem d_Book_add_71 : decode b_Book_add 71 = .ok (.iadd, 1) := by decide +kernel
theorem d_Book_add_72 : decode b_Book_add 72 = .ok (.iastore, 1) := by decide +kernel
theorem d_Book_add_73 : decode b_Book_add 73 = .ok (.aload_n 0, 1) := by decide +kernel
theorem d_Book_add_74 : decode b_Book_add 74 = .ok (.dup, 1) := by decide +kernel
theorem d_Book_add_75 : decode b_Book_add 75 = .ok (.getfield 35, 3) := by decide +kernel
theorem d_Book_add_78 : decode b_Book_add 78 = .ok (.iconst 1, 1) := by decide +kernel
theorem d_Book_add_79 : decode b_Book_add 79 = .ok (.iadd, 1) := by decide +kernel
theorem d_Book_add_80 : decode b_Book_add 80 = .ok (.putfield 35, 3) := by decide +kernel
theorem d_Book_add_83 : decode b_Book_add 83 = .ok (.iload 6, 2) := by decide +kernel
theorem d_Book_add_85 : decode b_Book_add 85 = .ok (.ireturn, 1) := by decide +kernel
theorem d_Forge_clear_0 : decode b_Forge_clear 0 = .ok (.aload_n 0, 1) := by decide +kernel
theorem d_Forge_clear_1 : decode b_Forge_clear 1 = .ok (.invokevirtual 60, 3) := by decide +kernel
theorem d_Forge_clear_4 : decode b_Forge_clear 4 = .ok (.aload_n 0, 1) := by decide +kernel
theorem d_Forge_clear_5 : decode b_Forge_clear 5 = .ok (.getfield 12, 3) := by decide +kernel
theorem d_Forge_clear_8 : decode b_Forge_clear 8 = .ok (.invokevirtual 67, 3) := by decide +kernel
theorem d_Forge_clear_11 : decode b_Forge_clear 11 = .ok (.return_, 1) := by decide +kernel
theorem d_Book_removeAll_0 : decode b_Book_removeAll 0 = .ok (.aload_n 0, 1) := by decide +kernel
theorem d_Book_removeAll_1 : decode b_Book_removeAll 1 = .ok (.iconst 0, 1) := by decide +kernel
theorem d_Book_removeAll_2 : decode b_Book_removeAll 2 = .ok (.putfield 35, 3) := by decide +kernel
theorem d_Book_removeAll_5 : decode b_Book_removeAll 5 = .ok (.aload_n 0, 1) := by decide +kernel
theorem d_Book_removeAll_6 : decode b_Book_removeAll 6 = .ok (.getfield 32, 3) := by decide +kernel
theorem d_Book_removeAll_9 : decode b_Book_removeAll 9 = .ok (.iconst 0, 1) := by decide +kernel
theorem d_Book_removeAll_10 : decode b_Book_removeAll 10 = .ok (.invokestatic 39, 3) := by decide +kernel
theorem d_Book_removeAll_13 : decode b_Book_removeAll 13 = .ok (.return_, 1) := by decide +kernel
theorem d_Arrays_fillI_0 : decode b_Arrays_fillI 0 = .ok (.iconst 0, 1) := by decide +kernel
theorem d_Arrays_fillI_1 : decode b_Arrays_fillI 1 = .ok (.istore_n 2, 1) := by decide +kernel
theorem d_Arrays_fillI_2 : decode b_Arrays_fillI 2 = .ok (.aload_n 0, 1) := by decide +kernel
theorem d_Arrays_fillI_3 : decode b_Arrays_fillI 3 = .ok (.arraylength, 1) := by decide +kernel
theorem d_Arrays_fillI_4 : decode b_Arrays_fillI 4 = .ok (.istore_n 3, 1) := by decide +kernel
theorem d_Arrays_fillI_5 : decode b_Arrays_fillI 5 = .ok (.iload_n 2, 1) := by decide +kernel
theorem d_Arrays_fillI_6 : decode b_Arrays_fillI 6 = .ok (.iload_n 3, 1) := by decide +kernel
theorem d_Arrays_fillI_7 : decode b_Arrays_fillI 7 = .ok (.if_icmp .ge 13, 3) := by decide +kernel
theorem d_Arrays_fillI_10 : decode b_Arrays_fillI 10 = .ok (.aload_n 0, 1) := by decide +kernel
theorem d_Arrays_fillI_11 : decode b_Arrays_fillI 11 = .ok (.iload_n 2, 1) := by decide +kernel
theorem d_Arrays_fillI_12 : decode b_Arrays_fillI 12 = .ok (.iload_n 1, 1) := by decide +kernel
theorem d_Arrays_fillI_13 : decode b_Arrays_fillI 13 = .ok (.iastore, 1) := by decide +kernel
theorem d_Arrays_fillI_14 : decode b_Arrays_fillI 14 = .ok (.iinc 2 1, 3) := by decide +kernel
theorem d_Arrays_fillI_17 : decode b_Arrays_fillI 17 = .ok (.goto (-12), 3) := by decide +kernel
theorem d_Arrays_fillI_20 : decode b_Arrays_fillI 20 = .ok (.return_, 1) := by decide +kernel
theorem d_Forge_states_0 : decode b_Forge_states 0 = .ok (.aload_n 0, 1) := by decide +kernel
theorem d_Forge_states_1 : decode b_Forge_states 1 = .ok (.getfield 26, 3) := by decide +kernel
theorem d_Forge_states_4 : decode b_Forge_states 4 = .ok (.getfield 70, 3) := by decide +kernel
theorem d_Forge_states_7 : decode b_Forge_states 7 = .ok (.ifCond .ne 14, 3) := by decide +kernel
theorem d_Forge_states_10 : decode b_Forge_states 10 = .ok (.aload_n 0, 1) := by decide +kernel
theorem d_Forge_states_11 : decode b_Forge_states 11 = .ok (.getfield 26, 3) := by decide +kernel
theorem d_Forge_states_14 : decode b_Forge_states 14 = .ok (.aload_n 0, 1) := by decide +kernel
theorem d_Forge_states_15 : decode b_Forge_states 15 = .ok (.getfield 12, 3) := by decide +kernel
theorem d_Forge_states_18 : decode b_Forge_states 18 = .ok (.invokevirtual 73, 3) := by decide +kernel
theorem d_Forge_states_21 : decode b_Forge_states 21 = .ok (.aload_n 0, 1) := by decide +kernel
theorem d_Forge_states_22 : decode b_Forge_states 22 = .ok (.getfield 26, 3) := by decide +kernel
theorem d_Forge_states_25 : decode b_Forge_states 25 = .ok (.getfield 70, 3) := by decide +kernel
theorem d_Forge_states_28 : decode b_Forge_states 28 = .ok (.ireturn, 1) := by decide +kernel
theorem d_Table_findAll_0 : decode b_Table_findAll 0 = .ok (.aload_n 0, 1) := by decide +kernel
theorem d_Table_findAll_1 : decode b_Table_findAll 1 = .ok (.iconst 0, 1) := by decide +kernel
theorem d_Table_findAll_2 : decode b_Table_findAll 2 = .ok (.putfield 26, 3) := by decide +kernel
theorem d_Table_findAll_5 : decode b_Table_findAll 5 = .ok (.iconst 0, 1) := by decide +kernel
theorem d_Table_findAll_6 : decode b_Table_findAll 6 = .ok (.istore_n 2, 1) := by decide +kernel
theorem d_Table_findAll_7 : decode b_Table_findAll 7 = .ok (.iload_n 2, 1) := by decide +kernel
theorem d_Table_findAll_8 : decode b_Table_findAll 8 = .ok (.iconst 2, 1) := by decide +kernel
theorem d_Table_findAll_9 : decode b_Table_findAll 9 = .ok (.if_icmp .gt 23, 3) := by decide +kernel
theorem d_Table_findAll_12 : decode b_Table_findAll 12 = .ok (.aload_n 0, 1) := by decide +kernel
theorem d_Table_findAll_13 : decode b_Table_findAll 13 = .ok (.aload_n 1, 1) := by decide +kernel
theorem d_Table_findAll_14 : decode b_Table_findAll 14 = .ok (.iload_n 2, 1) := by decide +kernel
theorem d_Table_findAll_15 : decode b_Table_findAll 15 = .ok (.aload_n 0, 1) := by decide +kernel
theorem d_Table_findAll_16 : decode b_Table_findAll 16 = .ok (.getfield 18, 3) := by decide +kernel
theorem d_Table_findAll_19 : decode b_Table_findAll 19 = .ok (.aload_n 0, 1) := by decide +kernel
theorem d_Table_findAll_20 : decode b_Table_findAll 20 = .ok (.getfield 18, 3) := by decide +kernel
theorem d_Table_findAll_23 : decode b_Table_findAll 23 = .ok (.invokevirtual 29, 3) := by decide +kernel
theorem d_Table_findAll_26 : decode b_Table_findAll 26 = .ok (.iinc 2 1, 3) := by decide +kernel
theorem d_Table_findAll_29 : decode b_Table_findAll 29 = .ok (.goto (-22), 3) := by decide +kernel
theorem d_Table_findAll_32 : decode b_Table_findAll 32 = .ok (.iconst 0, 1) := by decide +kernel
theorem d_Table_findAll_33 : decode b_Table_findAll 33 = .ok (.istore_n 2, 1) := by decide +kernel
theorem d_Table_findAll_34 : decode b_Table_findAll 34 = .ok (.iload_n 2, 1) := by decide +kernel
theorem d_Table_findAll_35 : decode b_Table_findAll 35 = .ok (.aload_n 0, 1) := by decide +kernel
theorem d_Table_findAll_36 : decode b_Table_findAll 36 = .ok (.getfield 26, 3) := by decide +kernel
theorem d_Table_findAll_39 : decode b_Table_findAll 39 = .ok (.if_icmp .ge 67, 3) := by decide +kernel
theorem d_Table_findAll_42 : decode b_Table_findAll 42 = .ok (.aload_n 0, 1) := by decide +kernel
theorem d_Table_findAll_43 : decode b_Table_findAll 43 = .ok (.getfield 26, 3) := by decide +kernel
theorem d_Table_findAll_46 : decode b_Table_findAll 46 = .ok (.bipush 40, 2) := by decide +kernel
theorem d_Table_findAll_48 : decode b_Table_findAll 48 = .ok (.if_icmp .gt 58, 3) := by decide +kernel
theorem d_Table_findAll_51 : decode b_Table_findAll 51 = .ok (.iconst 3, 1) := by decide +kernel
theorem d_Table_findAll_52 : decode b_Table_findAll 52 = .ok (.istore_n 3, 1) := by decide +kernel
theorem d_Table_findAll_53 : decode b_Table_findAll 53 = .ok (.iload_n 3, 1) := by decide +kernel
theorem d_Table_findAll_54 : decode b_Table_findAll 54 = .ok (.iconst 4, 1) := by decide +kernel
theorem d_Table_findAll_55 : decode b_Table_findAll 55 = .ok (.if_icmp .gt 25, 3) := by decide +kernel
theorem d_Table_findAll_58 : decode b_Table_findAll 58 = .ok (.aload_n 0, 1) := by decide +kernel
theorem d_Table_findAll_59 : decode b_Table_findAll 59 = .ok (.aload_n 1, 1) := by decide +kernel
theorem d_Table_findAll_60 : decode b_Table_findAll 60 = .ok (.iload_n 3, 1) := by decide +kernel
theorem d_Table_findAll_61 : decode b_Table_findAll 61 = .ok (.aload_n 0, 1) := by decide +kernel
theorem d_Table_findAll_62 : decode b_Table_findAll 62 = .ok (.getfield 11, 3) := by decide +kernel
theorem d_Table_findAll_65 : decode b_Table_findAll 65 = .ok (.iload_n 2, 1) := by decide +kernel
theorem d_Table_findAll_66 : decode b_Table_findAll 66 = .ok (.aaload, 1) := by decide +kernel
theorem d_Table_findAll_67 : decode b_Table_findAll 67 = .ok (.aload_n 0, 1) := by decide +kernel
theorem d_Table_findAll_68 : decode b_Table_findAll 68 = .ok (.getfield 18, 3) := by decide +kernel
theorem d_Table_findAll_71 : decode b_Table_findAll 71 = .ok (.invokevirtual 29, 3) := by decide +kernel
theorem d_Table_findAll_74 : decode b_Table_findAll 74 = .ok (.iinc 3 1, 3) := by decide +kernel
theorem d_Table_findAll_77 : decode b_Table_findAll 77 = .ok (.goto (-24), 3) := by decide +kernel
theorem d_Table_findAll_80 : decode b_Table_findAll 80 = .ok (.iconst 0, 1) := by decide +kernel
theorem d_Table_findAll_81 : decode b_Table_findAll 81 = .ok (.istore_n 3, 1) := by decide +kernel
theorem d_Table_findAll_82 : decode b_Table_findAll 82 = .ok (.iload_n 3, 1) := by decide +kernel
theorem d_Table_findAll_83 : decode b_Table_findAll 83 = .ok (.iload_n 2, 1) := by decide +kernel
theorem d_Table_findAll_84 : decode b_Table_findAll 84 = .ok (.if_icmp .gt 16, 3) := by decide +kernel
theorem d_Table_findAll_87 : decode b_Table_findAll 87 = .ok (.aload_n 0, 1) := by decide +kernel
theorem d_Table_findAll_88 : decode b_Table_findAll 88 = .ok (.aload_n 1, 1) := by decide +kernel
theorem d_Table_findAll_89 : decode b_Table_findAll 89 = .ok (.iload_n 2, 1) := by decide +kernel
theorem d_Table_findAll_90 : decode b_Table_findAll 90 = .ok (.iload_n 3, 1) := by decide +kernel
theorem d_Table_findAll_91 : decode b_Table_findAll 91 = .ok (.invokevirtual 33, 3) := by decide +kernel
theorem d_Table_findAll_94 : decode b_Table_findAll 94 = .ok (.iinc 3 1, 3) := by decide +kernel
theorem d_Table_findAll_97 : decode b_Table_findAll 97 = .ok (.goto (-15), 3) := by decide +kernel
theorem d_Table_findAll_100 : decode b_Table_findAll 100 = .ok (.iinc 2 1, 3) := by decide +kernel
theorem d_Table_findAll_103 : decode b_Table_findAll 103 = .ok (.goto (-69), 3) := by decide +kernel
theorem d_Table_findAll_106 : decode b_Table_findAll 106 = .ok (.aload_n 0, 1) := by decide +kernel
theorem d_Table_findAll_107 : decode b_Table_findAll 107 = .ok (.aload_n 0, 1) := by decide +kernel
theorem d_Table_findAll_108 : decode b_Table_findAll 108 = .ok (.getfield 26, 3) := by decide +kernel
theorem d_Table_findAll_111 : decode b_Table_findAll 111 = .ok (.bipush 40, 2) := by decide +kernel
theorem d_Table_findAll_113 : decode b_Table_findAll 113 = .ok (.if_icmp .le 8, 3) := by decide +kernel
theorem d_Table_findAll_116 : decode b_Table_findAll 116 = .ok (.bipush (-4), 2) := by decide +kernel
theorem d_Table_findAll_118 : decode b_Table_findAll 118 = .ok (.goto 7, 3) := by decide +kernel
theorem d_Table_findAll_121 : decode b_Table_findAll 121 = .ok (.aload_n 0, 1) := by decide +kernel
theorem d_Table_findAll_122 : decode b_Table_findAll 122 = .ok (.getfield 26, 3) := by decide +kernel
theorem d_Table_findAll_125 : decode b_Table_findAll 125 = .ok (.putfield 22, 3) := by decide +kernel
theorem d_Table_findAll_128 : decode b_Table_findAll 128 = .ok (.return_, 1) := by decide +kernel
theorem d_Table_look_0 : decode b_Table_look 0 = .ok (.aload_n 0, 1) := by decide +kernel
theorem d_Table_look_1 : decode b_Table_look 1 = .ok (.getfield 26, 3) := by decide +kernel
theorem d_Table_look_4 : decode b_Table_look 4 = .ok (.bipush 40, 2) := by decide +kernel
theorem d_Table_look_6 : decode b_Table_look 6 = .ok (.if_icmp .le 4, 3) := by decide +kernel
theorem d_Table_look_9 : decode b_Table_look 9 = .ok (.return_, 1) := by decide +kernel
theorem d_Table_look_10 : decode b_Table_look 10 = .ok (.aload_n 0, 1) := by decide +kernel
theorem d_Table_look_11 : decode b_Table_look 11 = .ok (.getfield 11, 3) := by decide +kernel
theorem d_Table_look_14 : decode b_Table_look 14 = .ok (.aload_n 0, 1) := by decide +kernel
theorem d_Table_look_15 : decode b_Table_look 15 = .ok (.getfield 26, 3) := by decide +kernel
theorem d_Table_look_18 : decode b_Table_look 18 = .ok (.aaload, 1) := by decide +kernel
theorem d_Table_look_19 : decode b_Table_look 19 = .ok (.astore 5, 2) := by decide +kernel
theorem d_Table_look_21 : decode b_Table_look 21 = .ok (.aload 5, 2) := by decide +kernel
theorem d_Table_look_23 : decode b_Table_look 23 = .ok (.aload_n 1, 1) := by decide +kernel
theorem d_Table_look_24 : decode b_Table_look 24 = .ok (.iload_n 2, 1) := by decide +kernel
theorem d_Table_look_25 : decode b_Table_look 25 = .ok (.aload_n 3, 1) := by decide +kernel
theorem d_Table_look_26 : decode b_Table_look 26 = .ok (.aload 4, 2) := by decide +kernel
theorem d_Table_look_28 : decode b_Table_look 28 = .ok (.invokevirtual 37, 3) := by decide +kernel
theorem d_Table_look_31 : decode b_Table_look 31 = .ok (.aload 5, 2) := by decide +kernel
theorem d_Table_look_33 : decode b_Table_look 33 = .ok (.invokevirtual 40, 3) := by decide +kernel
theorem d_Table_look_36 : decode b_Table_look 36 = .ok (.iconst 0, 1) := by decide +kernel
theorem d_Table_look_37 : decode b_Table_look 37 = .ok (.istore 6, 2) := by decide +kernel
theorem d_Table_look_39 : decode b_Table_look 39 = .ok (.iload 6, 2) := by decide +kernel
theorem d_Table_look_41 : decode b_Table_look 41 = .ok (.aload_n 0, 1) := by decide +kernel
theorem d_Table_look_42 : decode b_Table_look 42 = .ok (.getfield 26, 3) := by decide +kernel
theorem d_Table_look_45 : decode b_Table_look 45 = .ok (.if_icmp .ge 25, 3) := by decide +kernel
theorem d_Table_look_48 : decode b_Table_look 48 = .ok (.aload_n 0, 1) := by decide +kernel
theorem d_Table_look_49 : decode b_Table_look 49 = .ok (.getfield 11, 3) := by decide +kernel
theorem d_Table_look_52 : decode b_Table_look 52 = .ok (.iload 6, 2) := by decide +kernel
theorem d_Table_look_54 : decode b_Table_look 54 = .ok (.aaload, 1) := by decide +kernel
theorem d_Table_look_55 : decode b_Table_look 55 = .ok (.aload 5, 2) := by decide +kernel
theorem d_Table_look_57 : decode b_Table_look 57 = .ok (.invokevirtual 43, 3) := by decide +kernel
theorem d_Table_look_60 : decode b_Table_look 60 = .ok (.ifCond .eq 4, 3) := by decide +kernel
theorem d_Table_look_63 : decode b_Table_look 63 = .ok (.return_, 1) := by decide +kernel
theorem d_Table_look_64 : decode b_Table_look 64 = .ok (.iinc 6 1, 3) := by decide +kernel
theorem d_Table_look_67 : decode b_Table_look 67 = .ok (.goto (-28), 3) := by decide +kernel
theorem d_Table_look_70 : decode b_Table_look 70 = .ok (.aload_n 0, 1) := by decide +kernel
theorem d_Table_look_71 : decode b_Table_look 71 = .ok (.dup, 1) := by decide +kernel
theorem d_Table_look_72 : decode b_Table_look 72 = .ok (.getfield 26, 3) := by decide +kernel
theorem d_Table_look_75 : decode b_Table_look 75 = .ok (.iconst 1, 1) := by decide +kernel
theorem d_Table_look_76 : decode b_Table_look 76 = .ok (.iadd, 1) := by decide +kernel
theorem d_Table_look_77 : decode b_Table_look 77 = .ok (.putfield 26, 3) := by decide +kernel
theorem d_Table_look_80 : decode b_Table_look 80 = .ok (.return_, 1) := by decide +kernel
theorem d_Label_derive_0 : decode b_Label_derive 0 = .ok (.aload_n 0, 1) := by decide +kernel
theorem d_Label_derive_1 : decode b_Label_derive 1 = .ok (.getfield 9, 3) := by decide +kernel
theorem d_Label_derive_4 : decode b_Label_derive 4 = .ok (.ldc2_w 19, 3) := by decide +kernel
theorem d_Label_derive_7 : decode b_Label_derive 7 = .ok (.invokestatic 21, 3) := by decide +kernel
theorem d_Label_derive_10 : decode b_Label_derive 10 = .ok (.aload_n 0, 1) := by decide +kernel
theorem d_Label_derive_11 : decode b_Label_derive 11 = .ok (.getfield 15, 3) := by decide +kernel
theorem d_Label_derive_14 : decode b_Label_derive 14 = .ok (.bipush (-3), 2) := by decide +kernel
theorem d_Label_derive_16 : decode b_Label_derive 16 = .ok (.invokestatic 27, 3) := by decide +kernel
theorem d_Label_derive_19 : decode b_Label_derive 19 = .ok (.aload_n 1, 1) := by decide +kernel
theorem d_Label_derive_20 : decode b_Label_derive 20 = .ok (.getfield 30, 3) := by decide +kernel
theorem d_Label_derive_23 : decode b_Label_derive 23 = .ok (.iload_n 2, 1) := by decide +kernel
theorem d_Label_derive_24 : decode b_Label_derive 24 = .ok (.iaload, 1) := by decide +kernel
theorem d_Label_derive_25 : decode b_Label_derive 25 = .ok (.istore 5, 2) := by decide +kernel
theorem d_Label_derive_27 : decode b_Label_derive 27 = .ok (.iconst 0, 1) := by decide +kernel
theorem d_Label_derive_28 : decode b_Label_derive 28 = .ok (.istore 6, 2) := by decide +kernel
theorem d_Label_derive_30 : decode b_Label_derive 30 = .ok (.iload 6, 2) := by decide +kernel
theorem d_Label_derive_32 : decode b_Label_derive 32 = .ok (.iload 5, 2) := by decide +kernel
theorem d_Label_derive_34 : decode b_Label_derive 34 = .ok (.if_icmp .ge 81, 3) := by decide +kernel
theorem d_Label_derive_37 : decode b_Label_derive 37 = .ok (.aload_n 1, 1) := by decide +kernel
theorem d_Label_derive_38 : decode b_Label_derive 38 = .ok (.getfield 35, 3) := by decide +kernel
theorem d_Label_derive_41 : decode b_Label_derive 41 = .ok (.iload_n 2, 1) := by decide +kernel
theorem d_Label_derive_42 : decode b_Label_derive 42 = .ok (.aaload, 1) := by decide +kernel
theorem d_Label_derive_43 : decode b_Label_derive 43 = .ok (.iload 6, 2) := by decide +kernel
theorem d_Label_derive_45 : decode b_Label_derive 45 = .ok (.iaload, 1) := by decide +kernel
theorem d_Label_derive_46 : decode b_Label_derive 46 = .ok (.istore 7, 2) := by decide +kernel
theorem d_Label_derive_48 : decode b_Label_derive 48 = .ok (.aload_n 1, 1) := by decide +kernel
theorem d_Label_derive_49 : decode b_Label_derive 49 = .ok (.getfield 39, 3) := by decide +kernel
theorem d_Label_derive_52 : decode b_Label_derive 52 = .ok (.iload 7, 2) := by decide +kernel
theorem d_Label_derive_54 : decode b_Label_derive 54 = .ok (.iaload, 1) := by decide +kernel
theorem d_Label_derive_55 : decode b_Label_derive 55 = .ok (.istore 8, 2) := by decide +kernel
theorem d_Label_derive_57 : decode b_Label_derive 57 = .ok (.aload_n 1, 1) := by decide +kernel
theorem d_Label_derive_58 : decode b_Label_derive 58 = .ok (.getfield 42, 3) := by decide +kernel
theorem d_Label_derive_61 : decode b_Label_derive 61 = .ok (.iload 7, 2) := by decide +kernel
theorem d_Label_derive_63 : decode b_Label_derive 63 = .ok (.iaload, 1) := by decide +kernel
theorem d_Label_derive_64 : decode b_Label_derive 64 = .ok (.istore 9, 2) := by decide +kernel
theorem d_Label_derive_66 : decode b_Label_derive 66 = .ok (.aload_n 3, 1) := by decide +kernel
theorem d_Label_derive_67 : decode b_Label_derive 67 = .ok (.iload 8, 2) := by decide +kernel
theorem d_Label_derive_69 : decode b_Label_derive 69 = .ok (.invokevirtual 45, 3) := by decide +kernel
theorem d_Label_derive_72 : decode b_Label_derive 72 = .ok (.ifCond .eq 37, 3) := by decide +kernel
theorem d_Label_derive_75 : decode b_Label_derive 75 = .ok (.aload 4, 2) := by decide +kernel
theorem d_Label_derive_77 : decode b_Label_derive 77 = .ok (.iload 9, 2) := by decide +kernel
theorem d_Label_derive_79 : decode b_Label_derive 79 = .ok (.invokevirtual 45, 3) := by decide +kernel
theorem d_Label_derive_82 : decode b_Label_derive 82 = .ok (.ifCond .eq 27, 3) := by decide +kernel
theorem d_Label_derive_85 : decode b_Label_derive 85 = .ok (.aload_n 0, 1) := by decide +kernel
theorem d_Label_derive_86 : decode b_Label_derive 86 = .ok (.aload_n 1, 1) := by decide +kernel
theorem d_Label_derive_87 : decode b_Label_derive 87 = .ok (.iload 7, 2) := by decide +kernel
theorem d_Label_derive_89 : decode b_Label_derive 89 = .ok (.aload_n 3, 1) := by decide +kernel
theorem d_Label_derive_90 : decode b_Label_derive 90 = .ok (.getfield 9, 3) := by decide +kernel
theorem d_Label_derive_93 : decode b_Label_derive 93 = .ok (.iload 8, 2) := by decide +kernel
theorem d_Label_derive_95 : decode b_Label_derive 95 = .ok (.laload, 1) := by decide +kernel
theorem d_Label_derive_96 : decode b_Label_derive 96 = .ok (.aload 4, 2) := by decide +kernel
theorem d_Label_derive_98 : decode b_Label_derive 98 = .ok (.getfield 9, 3) := by decide +kernel
theorem d_Label_derive_101 : decode b_Label_derive 101 = .ok (.iload 9, 2) := by decide +kernel
theorem d_Label_derive_103 : decode b_Label_derive 103 = .ok (.laload, 1) := by decide +kernel
theorem d_Label_derive_104 : decode b_Label_derive 104 = .ok (.ladd, 1) := by decide +kernel
theorem d_Label_derive_105 : decode b_Label_derive 105 = .ok (.invokevirtual 49, 3) := by decide +kernel
theorem d_Label_derive_108 : decode b_Label_derive 108 = .ok (.pop, 1) := by decide +kernel
theorem d_Label_derive_109 : decode b_Label_derive 109 = .ok (.iinc 6 1, 3) := by decide +kernel
theorem d_Label_derive_112 : decode b_Label_derive 112 = .ok (.goto (-82), 3) := by decide +kernel
theorem d_Label_derive_115 : decode b_Label_derive 115 = .ok (.aload_n 0, 1) := by decide +kernel
theorem d_Label_derive_116 : decode b_Label_derive 116 = .ok (.aload_n 1, 1) := by decide +kernel
theorem d_Label_derive_117 : decode b_Label_derive 117 = .ok (.invokevirtual 53, 3) := by decide +kernel
theorem d_Label_derive_120 : decode b_Label_derive 120 = .ok (.return_, 1) := by decide +kernel
theorem d_Arrays_fillJ_0 : decode b_Arrays_fillJ 0 = .ok (.iconst 0, 1) := by decide +kernel
theorem d_Arrays_fillJ_1 : decode b_Arrays_fillJ 1 = .ok (.istore_n 3, 1) := by decide +kernel
theorem d_Arrays_fillJ_2 : decode b_Arrays_fillJ 2 = .ok (.aload_n 0, 1) := by decide +kernel
theorem d_Arrays_fillJ_3 : decode b_Arrays_fillJ 3 = .ok (.arraylength, 1) := by decide +kernel
theorem d_Arrays_fillJ_4 : decode b_Arrays_fillJ 4 = .ok (.istore 4, 2) := by decide +kernel
theorem d_Arrays_fillJ_6 : decode b_Arrays_fillJ 6 = .ok (.iload_n 3, 1) := by decide +kernel
theorem d_Arrays_fillJ_7 : decode b_Arrays_fillJ 7 = .ok (.iload 4, 2) := by decide +kernel
theorem d_Arrays_fillJ_9 : decode b_Arrays_fillJ 9 = .ok (.if_icmp .ge 13, 3) := by decide +kernel
theorem d_Arrays_fillJ_12 : decode b_Arrays_fillJ 12 = .ok (.aload_n 0, 1) := by decide +kernel
theorem d_Arrays_fillJ_13 : decode b_Arrays_fillJ 13 = .ok (.iload_n 3, 1) := by decide +kernel
theorem d_Arrays_fillJ_14 : decode b_Arrays_fillJ 14 = .ok (.lload_n 1, 1) := by decide +kernel
theorem d_Arrays_fillJ_15 : decode b_Arrays_fillJ 15 = .ok (.lastore, 1) := by decide +kernel
theorem d_Arrays_fillJ_16 : decode b_Arrays_fillJ 16 = .ok (.iinc 3 1, 3) := by decide +kernel
theorem d_Arrays_fillJ_19 : decode b_Arrays_fillJ 19 = .ok (.goto (-13), 3) := by decide +kernel
theorem d_Arrays_fillJ_22 : decode b_Arrays_fillJ 22 = .ok (.return_, 1) := by decide +kernel
theorem d_Label_isCovered_0 : decode b_Label_isCovered 0 = .ok (.aload_n 0, 1) := by decide +kernel
theorem d_Label_isCovered_1 : decode b_Label_isCovered 1 = .ok (.getfield 9, 3) := by decide +kernel
theorem d_Label_isCovered_4 : decode b_Label_isCovered 4 = .ok (.iload_n 1, 1) := by decide +kernel
theorem d_Label_isCovered_5 : decode b_Label_isCovered 5 = .ok (.laload, 1) := by decide +kernel
theorem d_Label_isCovered_6 : decode b_Label_isCovered 6 = .ok (.ldc2_w 19, 3) := by decide +kernel
theorem d_Label_isCovered_9 : decode b_Label_isCovered 9 = .ok (.lcmp, 1) := by decide +kernel
theorem d_Label_isCovered_10 : decode b_Label_isCovered 10 = .ok (.ifCond .eq 7, 3) := by decide +kernel
theorem d_Label_isCovered_13 : decode b_Label_isCovered 13 = .ok (.iconst 1, 1) := by decide +kernel
theorem d_Label_isCovered_14 : decode b_Label_isCovered 14 = .ok (.goto 4, 3) := by decide +kernel
theorem d_Label_isCovered_17 : decode b_Label_isCovered 17 = .ok (.iconst 0, 1) := by decide +kernel
theorem d_Label_isCovered_18 : decode b_Label_isCovered 18 = .ok (.ireturn, 1) := by decide +kernel
theorem d_Label_offer_0 : decode b_Label_offer 0 = .ok (.aload_n 1, 1) := by decide +kernel
theorem d_Label_offer_1 : decode b_Label_offer 1 = .ok (.getfield 57, 3) := by decide +kernel
theorem d_Label_offer_4 : decode b_Label_offer 4 = .ok (.iload_n 2, 1) := by decide +kernel
theorem d_Label_offer_5 : decode b_Label_offer 5 = .ok (.iaload, 1) := by decide +kernel
theorem d_Label_offer_6 : decode b_Label_offer 6 = .ok (.istore 5, 2) := by decide +kernel
theorem d_Label_offer_8 : decode b_Label_offer 8 = .ok (.lload_n 3, 1) := by decide +kernel
theorem d_Label_offer_9 : decode b_Label_offer 9 = .ok (.aload_n 1, 1) := by decide +kernel
theorem d_Label_offer_10 : decode b_Label_offer 10 = .ok (.getfield 60, 3) := by decide +kernel
theorem d_Label_offer_13 : decode b_Label_offer 13 = .ok (.iload_n 2, 1) := by decide +kernel
theorem d_Label_offer_14 : decode b_Label_offer 14 = .ok (.iaload, 1) := by decide +kernel
theorem d_Label_offer_15 : decode b_Label_offer 15 = .ok (.i2l, 1) := by decide +kernel
theorem d_Label_offer_16 : decode b_Label_offer 16 = .ok (.ladd, 1) := by decide +kernel
theorem d_Label_offer_17 : decode b_Label_offer 17 = .ok (.lstore 6, 2) := by decide +kernel
theorem d_Label_offer_19 : decode b_Label_offer 19 = .ok (.aload_n 0, 1) := by decide +kernel
theorem d_Label_offer_20 : decode b_Label_offer 20 = .ok (.getfield 9, 3) := by decide +kernel
theorem d_Label_offer_23 : decode b_Label_offer 23 = .ok (.iload 5, 2) := by decide +kernel
theorem d_Label_offer_25 : decode b_Label_offer 25 = .ok (.laload, 1) := by decide +kernel
theorem d_Label_offer_26 : decode b_Label_offer 26 = .ok (.ldc2_w 19, 3) := by decide +kernel
theorem d_Label_offer_29 : decode b_Label_offer 29 = .ok (.lcmp, 1) := by decide +kernel
theorem d_Label_offer_30 : decode b_Label_offer 30 = .ok (.ifCond .eq 40, 3) := by decide +kernel
theorem d_Label_offer_33 : decode b_Label_offer 33 = .ok (.lload 6, 2) := by decide +kernel
theorem d_Label_offer_35 : decode b_Label_offer 35 = .ok (.aload_n 0, 1) := by decide +kernel
theorem d_Label_offer_36 : decode b_Label_offer 36 = .ok (.getfield 9, 3) := by decide +kernel
theorem d_Label_offer_39 : decode b_Label_offer 39 = .ok (.iload 5, 2) := by decide +kernel
theorem d_Label_offer_41 : decode b_Label_offer 41 = .ok (.laload, 1) := by decide +kernel
theorem d_Label_offer_42 : decode b_Label_offer 42 = .ok (.lcmp, 1) := by decide +kernel
theorem d_Label_offer_43 : decode b_Label_offer 43 = .ok (.ifCond .lt 27, 3) := by decide +kernel
theorem d_Label_offer_46 : decode b_Label_offer 46 = .ok (.lload 6, 2) := by decide +kernel
theorem d_Label_offer_48 : decode b_Label_offer 48 = .ok (.aload_n 0, 1) := by decide +kernel
theorem d_Label_offer_49 : decode b_Label_offer 49 = .ok (.getfield 9, 3) := by decide +kernel
theorem d_Label_offer_52 : decode b_Label_offer 52 = .ok (.iload 5, 2) := by decide +kernel
theorem d_Label_offer_54 : decode b_Label_offer 54 = .ok (.laload, 1) := by decide +kernel
theorem d_Label_offer_55 : decode b_Label_offer 55 = .ok (.lcmp, 1) := by decide +kernel
theorem d_Label_offer_56 : decode b_Label_offer 56 = .ok (.ifCond .ne 18, 3) := by decide +kernel
theorem d_Label_offer_59 : decode b_Label_offer 59 = .ok (.iload_n 2, 1) := by decide +kernel
theorem d_Label_offer_60 : decode b_Label_offer 60 = .ok (.aload_n 0, 1) := by decide +kernel
theorem d_Label_offer_61 : decode b_Label_offer 61 = .ok (.getfield 15, 3) := by decide +kernel
theorem d_Label_offer_64 : decode b_Label_offer 64 = .ok (.iload 5, 2) := by decide +kernel
theorem d_Label_offer_66 : decode b_Label_offer 66 = .ok (.iaload, 1) := by decide +kernel
theorem d_Label_offer_67 : decode b_Label_offer 67 = .ok (.if_icmp .ge 7, 3) := by decide +kernel
theorem d_Label_offer_70 : decode b_Label_offer 70 = .ok (.iconst 1, 1) := by decide +kernel
theorem d_Label_offer_71 : decode b_Label_offer 71 = .ok (.goto 4, 3) := by decide +kernel
theorem d_Label_offer_74 : decode b_Label_offer 74 = .ok (.iconst 0, 1) := by decide +kernel
theorem d_Label_offer_75 : decode b_Label_offer 75 = .ok (.istore 8, 2) := by decide +kernel
theorem d_Label_offer_77 : decode b_Label_offer 77 = .ok (.iload 8, 2) := by decide +kernel
theorem d_Label_offer_79 : decode b_Label_offer 79 = .ok (.ifCond .eq 20, 3) := by decide +kernel
theorem d_Label_offer_82 : decode b_Label_offer 82 = .ok (.aload_n 0, 1) := by decide +kernel
theorem d_Label_offer_83 : decode b_Label_offer 83 = .ok (.getfield 9, 3) := by decide +kernel
theorem d_Label_offer_86 : decode b_Label_offer 86 = .ok (.iload 5, 2) := by decide +kernel
theorem d_Label_offer_88 : decode b_Label_offer 88 = .ok (.lload 6, 2) := by decide +kernel
theorem d_Label_offer_90 : decode b_Label_offer 90 = .ok (.lastore, 1) := by decide +kernel
theorem d_Label_offer_91 : decode b_Label_offer 91 = .ok (.aload_n 0, 1) := by decide +kernel
theorem d_Label_offer_92 : decode b_Label_offer 92 = .ok (.getfield 15, 3) := by decide +kernel
theorem d_Label_offer_95 : decode b_Label_offer 95 = .ok (.iload 5, 2) := by decide +kernel
theorem d_Label_offer_97 : decode b_Label_offer 97 = .ok (.iload_n 2, 1) := by decide +kernel
theorem d_Label_offer_98 : decode b_Label_offer 98 = .ok (.iastore, 1) := by decide +kernel
theorem d_Label_offer_99 : decode b_Label_offer 99 = .ok (.iload 8, 2) := by decide +kernel
theorem d_Label_offer_101 : decode b_Label_offer 101 = .ok (.ireturn, 1) := by decide +kernel
theorem d_Label_applyChains_0 : decode b_Label_applyChains 0 = .ok (.aload_n 1, 1) := by decide +kernel
theorem d_Label_applyChains_1 : decode b_Label_applyChains 1 = .ok (.getfield 30, 3) := by decide +kernel
theorem d_Label_applyChains_4 : decode b_Label_applyChains 4 = .ok (.bipush 8, 2) := by decide +kernel
theorem d_Label_applyChains_6 : decode b_Label_applyChains 6 = .ok (.iaload, 1) := by decide +kernel
theorem d_Label_applyChains_7 : decode b_Label_applyChains 7 = .ok (.istore_n 2, 1) := by decide +kernel
theorem d_Label_applyChains_8 : decode b_Label_applyChains 8 = .ok (.iconst 1, 1) := by decide +kernel
theorem d_Label_applyChains_9 : decode b_Label_applyChains 9 = .ok (.istore_n 3, 1) := by decide +kernel
theorem d_Label_applyChains_10 : decode b_Label_applyChains 10 = .ok (.iconst 0, 1) := by decide +kernel
theorem d_Label_applyChains_11 : decode b_Label_applyChains 11 = .ok (.istore 4, 2) := by decide +kernel
theorem d_Label_applyChains_13 : decode b_Label_applyChains 13 = .ok (.iload 4, 2) := by decide +kernel
theorem d_Label_applyChains_15 : decode b_Label_applyChains 15 = .ok (.iconst 3, 1) := by decide +kernel
theorem d_Label_applyChains_16 : decode b_Label_applyChains 16 = .ok (.if_icmp .ge 79, 3) := by decide +kernel
theorem d_Label_applyChains_19 : decode b_Label_applyChains 19 = .ok (.iload_n 3, 1) := by decide +kernel
theorem d_Label_applyChains_20 : decode b_Label_applyChains 20 = .ok (.ifCond .eq 75, 3) := by decide +kernel
theorem d_Label_applyChains_23 : decode b_Label_applyChains 23 = .ok (.iconst 0, 1) := by decide +kernel
theorem d_Label_applyChains_24 : decode b_Label_applyChains 24 = .ok (.istore_n 3, 1) := by decide +kernel
theorem d_Label_applyChains_25 : decode b_Label_applyChains 25 = .ok (.iconst 0, 1) := by decide +kernel
theorem d_Label_applyChains_26 : decode b_Label_applyChains 26 = .ok (.istore 5, 2) := by decide +kernel
theorem d_Label_applyChains_28 : decode b_Label_applyChains 28 = .ok (.iload 5, 2) := by decide +kernel
theorem d_Label_applyChains_30 : decode b_Label_applyChains 30 = .ok (.iload_n 2, 1) := by decide +kernel
theorem d_Label_applyChains_31 : decode b_Label_applyChains 31 = .ok (.if_icmp .ge 58, 3) := by decide +kernel
theorem d_Label_applyChains_34 : decode b_Label_applyChains 34 = .ok (.aload_n 1, 1) := by decide +kernel
theorem d_Label_applyChains_35 : decode b_Label_applyChains 35 = .ok (.getfield 35, 3) := by decide +kernel
theorem d_Label_applyChains_38 : decode b_Label_applyChains 38 = .ok (.bipush 8, 2) := by decide +kernel
theorem d_Label_applyChains_40 : decode b_Label_applyChains 40 = .ok (.aaload, 1) := by decide +kernel
theorem d_Label_applyChains_41 : decode b_Label_applyChains 41 = .ok (.iload 5, 2) := by decide +kernel
theorem d_Label_applyChains_43 : decode b_Label_applyChains 43 = .ok (.iaload, 1) := by decide +kernel
theorem d_Label_applyChains_44 : decode b_Label_applyChains 44 = .ok (.istore 6, 2) := by decide +kernel
theorem d_Label_applyChains_46 : decode b_Label_applyChains 46 = .ok (.aload_n 1, 1) := by decide +kernel
theorem d_Label_applyChains_47 : decode b_Label_applyChains 47 = .ok (.getfield 39, 3) := by decide +kernel
theorem d_Label_applyChains_50 : decode b_Label_applyChains 50 = .ok (.iload 6, 2) := by decide +kernel
theorem d_Label_applyChains_52 : decode b_Label_applyChains 52 = .ok (.iaload, 1) := by decide +kernel
theorem d_Label_applyChains_53 : decode b_Label_applyChains 53 = .ok (.istore 7, 2) := by decide +kernel
theorem d_Label_applyChains_55 : decode b_Label_applyChains 55 = .ok (.aload_n 0, 1) := by decide +kernel
theorem d_Label_applyChains_56 : decode b_Label_applyChains 56 = .ok (.iload 7, 2) := by decide +kernel
theorem d_Label_applyChains_58 : decode b_Label_applyChains 58 = .ok (.invokevirtual 45, 3) := by decide +kernel
theorem d_Label_applyChains_61 : decode b_Label_applyChains 61 = .ok (.ifCond .eq 22, 3) := by decide +kernel
theorem d_Label_applyChains_64 : decode b_Label_applyChains 64 = .ok (.aload_n 0, 1) := by decide +kernel
theorem d_Label_applyChains_65 : decode b_Label_applyChains 65 = .ok (.aload_n 1, 1) := by decide +kernel
theorem d_Label_applyChains_66 : decode b_Label_applyChains 66 = .ok (.iload 6, 2) := by decide +kernel
theorem d_Label_applyChains_68 : decode b_Label_applyChains 68 = .ok (.aload_n 0, 1) := by decide +kernel
theorem d_Label_applyChains_69 : decode b_Label_applyChains 69 = .ok (.getfield 9, 3) := by decide +kernel
theorem d_Label_applyChains_72 : decode b_Label_applyChains 72 = .ok (.iload 7, 2) := by decide +kernel
theorem d_Label_applyChains_74 : decode b_Label_applyChains 74 = .ok (.laload, 1) := by decide +kernel
theorem d_Label_applyChains_75 : decode b_Label_applyChains 75 = .ok (.invokevirtual 49, 3) := by decide +kernel
theorem d_Label_applyChains_78 : decode b_Label_applyChains 78 = .ok (.ifCond .eq 5, 3) := by decide +kernel
theorem d_Label_applyChains_81 : decode b_Label_applyChains 81 = .ok (.iconst 1, 1) := by decide +kernel
theorem d_Label_applyChains_82 : decode b_Label_applyChains 82 = .ok (.istore_n 3, 1) := by decide +kernel
theorem d_Label_applyChains_83 : decode b_Label_applyChains 83 = .ok (.iinc 5 1, 3) := by decide +kernel
theorem d_Label_applyChains_86 : decode b_Label_applyChains 86 = .ok (.goto (-58), 3) := by decide +kernel
theorem d_Label_applyChains_89 : decode b_Label_applyChains 89 = .ok (.iinc 4 1, 3) := by decide +kernel
theorem d_Label_applyChains_92 : decode b_Label_applyChains 92 = .ok (.goto (-79), 3) := by decide +kernel
theorem d_Label_applyChains_95 : decode b_Label_applyChains 95 = .ok (.return_, 1) := by decide +kernel
theorem d_Label_makeRelative_0 : decode b_Label_makeRelative 0 = .ok (.aload_n 0, 1) := by decide +kernel
theorem d_Label_makeRelative_1 : decode b_Label_makeRelative 1 = .ok (.invokevirtual 62, 3) := by decide +kernel
theorem d_Label_makeRelative_4 : decode b_Label_makeRelative 4 = .ok (.lstore_n 1, 1) := by decide +kernel
theorem d_Label_makeRelative_5 : decode b_Label_makeRelative 5 = .ok (.iconst 0, 1) := by decide +kernel
theorem d_Label_makeRelative_6 : decode b_Label_makeRelative 6 = .ok (.istore_n 3, 1) := by decide +kernel
theorem d_Label_makeRelative_7 : decode b_Label_makeRelative 7 = .ok (.iload_n 3, 1) := by decide +kernel
theorem d_Label_makeRelative_8 : decode b_Label_makeRelative 8 = .ok (.iconst 4, 1) := by decide +kernel
theorem d_Label_makeRelative_9 : decode b_Label_makeRelative 9 = .ok (.if_icmp .ge 27, 3) := by decide +kernel
theorem d_Label_makeRelative_12 : decode b_Label_makeRelative 12 = .ok (.aload_n 0, 1) := by decide +kernel
theorem d_Label_makeRelative_13 : decode b_Label_makeRelative 13 = .ok (.iload_n 3, 1) := by decide +kernel
theorem d_Label_makeRelative_14 : decode b_Label_makeRelative 14 = .ok (.invokevirtual 45, 3) := by decide +kernel
theorem d_Label_makeRelative_17 : decode b_Label_makeRelative 17 = .ok (.ifCond .eq 13, 3) := by decide +kernel
theorem d_Label_makeRelative_20 : decode b_Label_makeRelative 20 = .ok (.aload_n 0, 1) := by decide +kernel
theorem d_Label_makeRelative_21 : decode b_Label_makeRelative 21 = .ok (.getfield 9, 3) := by decide +kernel
theorem d_Label_makeRelative_24 : decode b_Label_makeRelative 24 = .ok (.iload_n 3, 1) := by decide +kernel
theorem d_Label_makeRelative_25 : decode b_Label_makeRelative 25 = .ok (.dup2, 1) := by decide +kernel
theorem d_Label_makeRelative_26 : decode b_Label_makeRelative 26 = .ok (.laload, 1) := by decide +kernel
theorem d_Label_makeRelative_27 : decode b_Label_makeRelative 27 = .ok (.lload_n 1, 1) := by decide +kernel
theorem d_Label_makeRelative_28 : decode b_Label_makeRelative 28 = .ok (.lsub, 1) := by decide +kernel
theorem d_Label_makeRelative_29 : decode b_Label_makeRelative 29 = .ok (.lastore, 1) := by decide +kernel
theorem d_Label_makeRelative_30 : decode b_Label_makeRelative 30 = .ok (.iinc 3 1, 3) := by decide +kernel
theorem d_Label_makeRelative_33 : decode b_Label_makeRelative 33 = .ok (.goto (-26), 3) := by decide +kernel
theorem d_Label_makeRelative_36 : decode b_Label_makeRelative 36 = .ok (.return_, 1) := by decide +kernel
theorem d_Label_leastCost_0 : decode b_Label_leastCost 0 = .ok (.ldc2_w 19, 3) := by decide +kernel
theorem d_Label_leastCost_3 : decode b_Label_leastCost 3 = .ok (.lstore_n 1, 1) := by decide +kernel
theorem d_Label_leastCost_4 : decode b_Label_leastCost 4 = .ok (.iconst 0, 1) := by decide +kernel
theorem d_Label_leastCost_5 : decode b_Label_leastCost 5 = .ok (.istore_n 3, 1) := by decide +kernel
theorem d_Label_leastCost_6 : decode b_Label_leastCost 6 = .ok (.iload_n 3, 1) := by decide +kernel
theorem d_Label_leastCost_7 : decode b_Label_leastCost 7 = .ok (.iconst 4, 1) := by decide +kernel
theorem d_Label_leastCost_8 : decode b_Label_leastCost 8 = .ok (.if_icmp .ge 43, 3) := by decide +kernel
theorem d_Label_leastCost_11 : decode b_Label_leastCost 11 = .ok (.aload_n 0, 1) := by decide +kernel
theorem d_Label_leastCost_12 : decode b_Label_leastCost 12 = .ok (.iload_n 3, 1) := by decide +kernel
theorem d_Label_leastCost_13 : decode b_Label_leastCost 13 = .ok (.invokevirtual 45, 3) := by decide +kernel
theorem d_Label_leastCost_16 : decode b_Label_leastCost 16 = .ok (.ifCond .eq 29, 3) := by decide +kernel
theorem d_Label_leastCost_19 : decode b_Label_leastCost 19 = .ok (.lload_n 1, 1) := by decide +kernel
theorem d_Label_leastCost_20 : decode b_Label_leastCost 20 = .ok (.ldc2_w 19, 3) := by decide +kernel
theorem d_Label_leastCost_23 : decode b_Label_leastCost 23 = .ok (.lcmp, 1) := by decide +kernel
theorem d_Label_leastCost_24 : decode b_Label_leastCost 24 = .ok (.ifCond .eq 14, 3) := by decide +kernel
theorem d_Label_leastCost_27 : decode b_Label_leastCost 27 = .ok (.aload_n 0, 1) := by decide +kernel
theorem d_Label_leastCost_28 : decode b_Label_leastCost 28 = .ok (.getfield 9, 3) := by decide +kernel
theorem d_Label_leastCost_31 : decode b_Label_leastCost 31 = .ok (.iload_n 3, 1) := by decide +kernel
theorem d_Label_leastCost_32 : decode b_Label_leastCost 32 = .ok (.laload, 1) := by decide +kernel
theorem d_Label_leastCost_33 : decode b_Label_leastCost 33 = .ok (.lload_n 1, 1) := by decide +kernel
theorem d_Label_leastCost_34 : decode b_Label_leastCost 34 = .ok (.lcmp, 1) := by decide +kernel
theorem d_Label_leastCost_35 : decode b_Label_leastCost 35 = .ok (.ifCond .ge 10, 3) := by decide +kernel
theorem d_Label_leastCost_38 : decode b_Label_leastCost 38 = .ok (.aload_n 0, 1) := by decide +kernel
theorem d_Label_leastCost_39 : decode b_Label_leastCost 39 = .ok (.getfield 9, 3) := by decide +kernel
theorem d_Label_leastCost_42 : decode b_Label_leastCost 42 = .ok (.iload_n 3, 1) := by decide +kernel
theorem d_Label_leastCost_43 : decode b_Label_leastCost 43 = .ok (.laload, 1) := by decide +kernel
theorem d_Label_leastCost_44 : decode b_Label_leastCost 44 = .ok (.lstore_n 1, 1) := by decide +kernel
theorem d_Label_leastCost_45 : decode b_Label_leastCost 45 = .ok (.iinc 3 1, 3) := by decide +kernel
theorem d_Label_leastCost_48 : decode b_Label_leastCost 48 = .ok (.goto (-42), 3) := by decide +kernel
theorem d_Label_leastCost_51 : decode b_Label_leastCost 51 = .ok (.lload_n 1, 1) := by decide +kernel
theorem d_Label_leastCost_52 : decode b_Label_leastCost 52 = .ok (.lreturn, 1) := by decide +kernel
theorem d_Label_agreesWith_0 : decode b_Label_agreesWith 0 = .ok (.iconst 0, 1) := by decide +kernel
theorem d_Label_agreesWith_1 : decode b_Label_agreesWith 1 = .ok (.istore_n 2, 1) := by decide +kernel
theorem d_Label_agreesWith_2 : decode b_Label_agreesWith 2 = .ok (.iload_n 2, 1) := by decide +kernel
theorem d_Label_agreesWith_3 : decode b_Label_agreesWith 3 = .ok (.iconst 4, 1) := by decide +kernel
theorem d_Label_agreesWith_4 : decode b_Label_agreesWith 4 = .ok (.if_icmp .ge 42, 3) := by decide +kernel
theorem d_Label_agreesWith_7 : decode b_Label_agreesWith 7 = .ok (.aload_n 0, 1) := by decide +kernel
theorem d_Label_agreesWith_8 : decode b_Label_agreesWith 8 = .ok (.getfield 9, 3) := by decide +kernel
theorem d_Label_agreesWith_11 : decode b_Label_agreesWith 11 = .ok (.iload_n 2, 1) := by decide +kernel
theorem d_Label_agreesWith_12 : decode b_Label_agreesWith 12 = .ok (.laload, 1) := by decide +kernel
theorem d_Label_agreesWith_13 : decode b_Label_agreesWith 13 = .ok (.aload_n 1, 1) := by decide +kernel
theorem d_Label_agreesWith_14 : decode b_Label_agreesWith 14 = .ok (.getfield 9, 3) := by decide +kernel
theorem d_Label_agreesWith_17 : decode b_Label_agreesWith 17 = .ok (.iload_n 2, 1) := by decide +kernel
theorem d_Label_agreesWith_18 : decode b_Label_agreesWith 18 = .ok (.laload, 1) := by decide +kernel
theorem d_Label_agreesWith_19 : decode b_Label_agreesWith 19 = .ok (.lcmp, 1) := by decide +kernel
theorem d_Label_agreesWith_20 : decode b_Label_agreesWith 20 = .ok (.ifCond .ne 18, 3) := by decide +kernel
theorem d_Label_agreesWith_23 : decode b_Label_agreesWith 23 = .ok (.aload_n 0, 1) := by decide +kernel
theorem d_Label_agreesWith_24 : decode b_Label_agreesWith 24 = .ok (.getfield 15, 3) := by decide +kernel
theorem d_Label_agreesWith_27 : decode b_Label_agreesWith 27 = .ok (.iload_n 2, 1) := by decide +kernel
theorem d_Label_agreesWith_28 : decode b_Label_agreesWith 28 = .ok (.iaload, 1) := by decide +kernel
theorem d_Label_agreesWith_29 : decode b_Label_agreesWith 29 = .ok (.aload_n 1, 1) := by decide +kernel
theorem d_Label_agreesWith_30 : decode b_Label_agreesWith 30 = .ok (.getfield 15, 3) := by decide +kernel
theorem d_Label_agreesWith_33 : decode b_Label_agreesWith 33 = .ok (.iload_n 2, 1) := by decide +kernel
theorem d_Label_agreesWith_34 : decode b_Label_agreesWith 34 = .ok (.iaload, 1) := by decide +kernel
theorem d_Label_agreesWith_35 : decode b_Label_agreesWith 35 = .ok (.if_icmp .eq 5, 3) := by decide +kernel
theorem d_Label_agreesWith_38 : decode b_Label_agreesWith 38 = .ok (.iconst 0, 1) := by decide +kernel
theorem d_Label_agreesWith_39 : decode b_Label_agreesWith 39 = .ok (.ireturn, 1) := by decide +kernel
theorem d_Label_agreesWith_40 : decode b_Label_agreesWith 40 = .ok (.iinc 2 1, 3) := by decide +kernel
theorem d_Label_agreesWith_43 : decode b_Label_agreesWith 43 = .ok (.goto (-41), 3) := by decide +kernel
theorem d_Label_agreesWith_46 : decode b_Label_agreesWith 46 = .ok (.iconst 1, 1) := by decide +kernel
theorem d_Label_agreesWith_47 : decode b_Label_agreesWith 47 = .ok (.ireturn, 1) := by decide +kernel
theorem d_Table_lookAtPair_0 : decode b_Table_lookAtPair 0 = .ok (.iconst 5, 1) := by decide +kernel
theorem d_Table_lookAtPair_1 : decode b_Table_lookAtPair 1 = .ok (.istore 4, 2) := by decide +kernel
theorem d_Table_lookAtPair_3 : decode b_Table_lookAtPair 3 = .ok (.iload 4, 2) := by decide +kernel
theorem d_Table_lookAtPair_5 : decode b_Table_lookAtPair 5 = .ok (.bipush 7, 2) := by decide +kernel
theorem d_Table_lookAtPair_7 : decode b_Table_lookAtPair 7 = .ok (.if_icmp .gt 52, 3) := by decide +kernel
theorem d_Table_lookAtPair_10 : decode b_Table_lookAtPair 10 = .ok (.aload_n 0, 1) := by decide +kernel
theorem d_Table_lookAtPair_11 : decode b_Table_lookAtPair 11 = .ok (.aload_n 1, 1) := by decide +kernel
theorem d_Table_lookAtPair_12 : decode b_Table_lookAtPair 12 = .ok (.iload 4, 2) := by decide +kernel
theorem d_Table_lookAtPair_14 : decode b_Table_lookAtPair 14 = .ok (.aload_n 0, 1) := by decide +kernel
theorem d_Table_lookAtPair_15 : decode b_Table_lookAtPair 15 = .ok (.getfield 11, 3) := by decide +kernel
theorem d_Table_lookAtPair_18 : decode b_Table_lookAtPair 18 = .ok (.iload_n 2, 1) := by decide +kernel
theorem d_Table_lookAtPair_19 : decode b_Table_lookAtPair 19 = .ok (.aaload, 1) := by decide +kernel
theorem d_Table_lookAtPair_20 : decode b_Table_lookAtPair 20 = .ok (.aload_n 0, 1) := by decide +kernel
theorem d_Table_lookAtPair_21 : decode b_Table_lookAtPair 21 = .ok (.getfield 11, 3) := by decide +kernel
theorem d_Table_lookAtPair_24 : decode b_Table_lookAtPair 24 = .ok (.iload_n 3, 1) := by decide +kernel
theorem d_Table_lookAtPair_25 : decode b_Table_lookAtPair 25 = .ok (.aaload, 1) := by decide +kernel
theorem d_Table_lookAtPair_26 : decode b_Table_lookAtPair 26 = .ok (.invokevirtual 29, 3) := by decide +kernel
theorem d_Table_lookAtPair_29 : decode b_Table_lookAtPair 29 = .ok (.iload_n 2, 1) := by decide +kernel
theorem d_Table_lookAtPair_30 : decode b_Table_lookAtPair 30 = .ok (.iload_n 3, 1) := by decide +kernel
theorem d_Table_lookAtPair_31 : decode b_Table_lookAtPair 31 = .ok (.if_icmp .eq 22, 3) := by decide +kernel
theorem d_Table_lookAtPair_34 : decode b_Table_lookAtPair 34 = .ok (.aload_n 0, 1) := by decide +kernel
theorem d_Table_lookAtPair_35 : decode b_Table_lookAtPair 35 = .ok (.aload_n 1, 1) := by decide +kernel
theorem d_Table_lookAtPair_36 : decode b_Table_lookAtPair 36 = .ok (.iload 4, 2) := by decide +kernel
theorem d_Table_lookAtPair_38 : decode b_Table_lookAtPair 38 = .ok (.aload_n 0, 1) := by decide +kernel
theorem d_Table_lookAtPair_39 : decode b_Table_lookAtPair 39 = .ok (.getfield 11, 3) := by decide +kernel
theorem d_Table_lookAtPair_42 : decode b_Table_lookAtPair 42 = .ok (.iload_n 3, 1) := by decide +kernel
theorem d_Table_lookAtPair_43 : decode b_Table_lookAtPair 43 = .ok (.aaload, 1) := by decide +kernel
theorem d_Table_lookAtPair_44 : decode b_Table_lookAtPair 44 = .ok (.aload_n 0, 1) := by decide +kernel
theorem d_Table_lookAtPair_45 : decode b_Table_lookAtPair 45 = .ok (.getfield 11, 3) := by decide +kernel
theorem d_Table_lookAtPair_48 : decode b_Table_lookAtPair 48 = .ok (.iload_n 2, 1) := by decide +kernel
theorem d_Table_lookAtPair_49 : decode b_Table_lookAtPair 49 = .ok (.aaload, 1) := by decide +kernel
theorem d_Table_lookAtPair_50 : decode b_Table_lookAtPair 50 = .ok (.invokevirtual 29, 3) := by decide +kernel
theorem d_Table_lookAtPair_53 : decode b_Table_lookAtPair 53 = .ok (.iinc 4 1, 3) := by decide +kernel
theorem d_Table_lookAtPair_56 : decode b_Table_lookAtPair 56 = .ok (.goto (-53), 3) := by decide +kernel
theorem d_Table_lookAtPair_59 : decode b_Table_lookAtPair 59 = .ok (.return_, 1) := by decide +kernel
theorem d_Forge_push_0 : decode b_Forge_push 0 = .ok (.iload_n 1, 1) := by decide +kernel
theorem d_Forge_push_1 : decode b_Forge_push 1 = .ok (.ifCond .lt 32, 3) := by decide +kernel
theorem d_Forge_push_4 : decode b_Forge_push 4 = .ok (.iload_n 1, 1) := by decide +kernel
theorem d_Forge_push_5 : decode b_Forge_push 5 = .ok (.bipush 8, 2) := by decide +kernel
theorem d_Forge_push_7 : decode b_Forge_push 7 = .ok (.if_icmp .ge 26, 3) := by decide +kernel
theorem d_Forge_push_10 : decode b_Forge_push 10 = .ok (.iload_n 1, 1) := by decide +kernel
theorem d_Forge_push_11 : decode b_Forge_push 11 = .ok (.iload_n 2, 1) := by decide +kernel
theorem d_Forge_push_12 : decode b_Forge_push 12 = .ok (.invokestatic 77, 3) := by decide +kernel
theorem d_Forge_push_15 : decode b_Forge_push 15 = .ok (.ifCond .eq 18, 3) := by decide +kernel
theorem d_Forge_push_18 : decode b_Forge_push 18 = .ok (.aload_n 0, 1) := by decide +kernel
theorem d_Forge_push_19 : decode b_Forge_push 19 = .ok (.getfield 19, 3) := by decide +kernel
theorem d_Forge_push_22 : decode b_Forge_push 22 = .ok (.getfield 80, 3) := by decide +kernel
theorem d_Forge_push_25 : decode b_Forge_push 25 = .ok (.getstatic 83, 3) := by decide +kernel
theorem d_Forge_push_28 : decode b_Forge_push 28 = .ok (.iload_n 1, 1) := by decide +kernel
theorem d_Forge_push_29 : decode b_Forge_push 29 = .ok (.iaload, 1) := by decide +kernel
theorem d_Forge_push_30 : decode b_Forge_push 30 = .ok (.if_icmp .ge 5, 3) := by decide +kernel
theorem d_Forge_push_33 : decode b_Forge_push 33 = .ok (.iconst (-1), 1) := by decide +kernel
theorem d_Forge_push_34 : decode b_Forge_push 34 = .ok (.ireturn, 1) := by decide +kernel
theorem d_Forge_push_35 : decode b_Forge_push 35 = .ok (.aload_n 0, 1) := by decide +kernel
theorem d_Forge_push_36 : decode b_Forge_push 36 = .ok (.getfield 19, 3) := by decide +kernel
theorem d_Forge_push_39 : decode b_Forge_push 39 = .ok (.getfield 86, 3) := by decide +kernel
theorem d_Forge_push_42 : decode b_Forge_push 42 = .ok (.bipush 40, 2) := by decide +kernel
theorem d_Forge_push_44 : decode b_Forge_push 44 = .ok (.if_icmp .eq 16, 3) := by decide +kernel
theorem d_Forge_push_47 : decode b_Forge_push 47 = .ok (.aload_n 0, 1) := by decide +kernel
theorem d_Forge_push_48 : decode b_Forge_push 48 = .ok (.getfield 19, 3) := by decide +kernel
theorem d_Forge_push_51 : decode b_Forge_push 51 = .ok (.iload_n 1, 1) := by decide +kernel
theorem d_Forge_push_52 : decode b_Forge_push 52 = .ok (.invokevirtual 89, 3) := by decide +kernel
theorem d_Forge_push_55 : decode b_Forge_push 55 = .ok (.bipush 10, 2) := by decide +kernel
theorem d_Forge_push_57 : decode b_Forge_push 57 = .ok (.if_icmp .le 6, 3) := by decide +kernel
theorem d_Forge_push_60 : decode b_Forge_push 60 = .ok (.bipush (-2), 2) := by decide +kernel
theorem d_Forge_push_62 : decode b_Forge_push 62 = .ok (.ireturn, 1) := by decide +kernel
theorem d_Forge_push_63 : decode b_Forge_push 63 = .ok (.aload_n 0, 1) := by decide +kernel
theorem d_Forge_push_64 : decode b_Forge_push 64 = .ok (.getfield 19, 3) := by decide +kernel
theorem d_Forge_push_67 : decode b_Forge_push 67 = .ok (.iload_n 1, 1) := by decide +kernel
theorem d_Forge_push_68 : decode b_Forge_push 68 = .ok (.iload_n 2, 1) := by decide +kernel
theorem d_Forge_push_69 : decode b_Forge_push 69 = .ok (.invokevirtual 93, 3) := by decide +kernel
theorem d_Forge_push_72 : decode b_Forge_push 72 = .ok (.aload_n 0, 1) := by decide +kernel
theorem d_Forge_push_73 : decode b_Forge_push 73 = .ok (.getfield 19, 3) := by decide +kernel
theorem d_Forge_push_76 : decode b_Forge_push 76 = .ok (.getfield 80, 3) := by decide +kernel
theorem d_Forge_push_79 : decode b_Forge_push 79 = .ok (.ireturn, 1) := by decide +kernel
theorem d_Forge_isNumberFor_0 : decode b_Forge_isNumberFor 0 = .ok (.iload_n 0, 1) := by decide +kernel
theorem d_Forge_isNumberFor_1 : decode b_Forge_isNumberFor 1 = .ok (.iconst 1, 1) := by decide +kernel
theorem d_Forge_isNumberFor_2 : decode b_Forge_isNumberFor 2 = .ok (.if_icmp .eq 8, 3) := by decide +kernel
theorem d_Forge_isNumberFor_5 : decode b_Forge_isNumberFor 5 = .ok (.iload_n 0, 1) := by decide +kernel
theorem d_Forge_isNumberFor_6 : decode b_Forge_isNumberFor 6 = .ok (.iconst 2, 1) := by decide +kernel
theorem d_Forge_isNumberFor_7 : decode b_Forge_isNumberFor 7 = .ok (.if_icmp .ne 10, 3) := by decide +kernel
theorem d_Forge_isNumberFor_10 : decode b_Forge_isNumberFor 10 = .ok (.iload_n 1, 1) := by decide +kernel
theorem d_Forge_isNumberFor_11 : decode b_Forge_isNumberFor 11 = .ok (.invokestatic 142, 3) := by decide +kernel
theorem d_Forge_isNumberFor_14 : decode b_Forge_isNumberFor 14 = .ok (.ifCond .eq 7, 3) := by decide +kernel
theorem d_Forge_isNumberFor_17 : decode b_Forge_isNumberFor 17 = .ok (.iconst 1, 1) := by decide +kernel
theorem d_Forge_isNumberFor_18 : decode b_Forge_isNumberFor 18 = .ok (.goto 4, 3) := by decide +kernel
theorem d_Forge_isNumberFor_21 : decode b_Forge_isNumberFor 21 = .ok (.iconst 0, 1) := by decide +kernel
theorem d_Forge_isNumberFor_22 : decode b_Forge_isNumberFor 22 = .ok (.ireturn, 1) := by decide +kernel
theorem d_Forge_isVariable_0 : decode b_Forge_isVariable 0 = .ok (.iload_n 0, 1) := by decide +kernel
theorem d_Forge_isVariable_1 : decode b_Forge_isVariable 1 = .ok (.ifCond .lt 13, 3) := by decide +kernel
theorem d_Forge_isVariable_4 : decode b_Forge_isVariable 4 = .ok (.iload_n 0, 1) := by decide +kernel
theorem d_Forge_isVariable_5 : decode b_Forge_isVariable 5 = .ok (.bipush 8, 2) := by decide +kernel
theorem d_Forge_isVariable_7 : decode b_Forge_isVariable 7 = .ok (.if_icmp .ge 7, 3) := by decide +kernel
theorem d_Forge_isVariable_10 : decode b_Forge_isVariable 10 = .ok (.iconst 1, 1) := by decide +kernel
theorem d_Forge_isVariable_11 : decode b_Forge_isVariable 11 = .ok (.goto 4, 3) := by decide +kernel
theorem d_Forge_isVariable_14 : decode b_Forge_isVariable 14 = .ok (.iconst 0, 1) := by decide +kernel
theorem d_Forge_isVariable_15 : decode b_Forge_isVariable 15 = .ok (.ireturn, 1) := by decide +kernel
theorem d_Forge_pop_0 : decode b_Forge_pop 0 = .ok (.aload_n 0, 1) := by decide +kernel
theorem d_Forge_pop_1 : decode b_Forge_pop 1 = .ok (.getfield 19, 3) := by decide +kernel
theorem d_Forge_pop_4 : decode b_Forge_pop 4 = .ok (.getfield 80, 3) := by decide +kernel
theorem d_Forge_pop_7 : decode b_Forge_pop 7 = .ok (.ifCond .ne 5, 3) := by decide +kernel
theorem d_Forge_pop_10 : decode b_Forge_pop 10 = .ok (.iconst 0, 1) := by decide +kernel
theorem d_Forge_pop_11 : decode b_Forge_pop 11 = .ok (.ireturn, 1) := by decide +kernel
theorem d_Forge_pop_12 : decode b_Forge_pop 12 = .ok (.aload_n 0, 1) := by decide +kernel
theorem d_Forge_pop_13 : decode b_Forge_pop 13 = .ok (.getfield 19, 3) := by decide +kernel
theorem d_Forge_pop_16 : decode b_Forge_pop 16 = .ok (.invokevirtual 96, 3) := by decide +kernel
theorem d_Forge_pop_19 : decode b_Forge_pop 19 = .ok (.iconst 1, 1) := by decide +kernel
theorem d_Forge_pop_20 : decode b_Forge_pop 20 = .ok (.ireturn, 1) := by decide +kernel
theorem d_Forge_trees_0 : decode b_Forge_trees 0 = .ok (.aload_n 0, 1) := by decide +kernel
theorem d_Forge_trees_1 : decode b_Forge_trees 1 = .ok (.getfield 19, 3) := by decide +kernel
theorem d_Forge_trees_4 : decode b_Forge_trees 4 = .ok (.getfield 80, 3) := by decide +kernel
theorem d_Forge_trees_7 : decode b_Forge_trees 7 = .ok (.ireturn, 1) := by decide +kernel
theorem d_Forge_nodes_0 : decode b_Forge_nodes 0 = .ok (.aload_n 0, 1) := by decide +kernel
theorem d_Forge_nodes_1 : decode b_Forge_nodes 1 = .ok (.getfield 19, 3) := by decide +kernel
theorem d_Forge_nodes_4 : decode b_Forge_nodes 4 = .ok (.invokevirtual 99, 3) := by decide +kernel
theorem d_Forge_nodes_7 : decode b_Forge_nodes 7 = .ok (.ireturn, 1) := by decide +kernel
theorem d_Forge_relative_0 : decode b_Forge_relative 0 = .ok (.aload_n 0, 1) := by decide +kernel
theorem d_Forge_relative_1 : decode b_Forge_relative 1 = .ok (.iload_n 1, 1) := by decide +kernel
theorem d_Forge_relative_2 : decode b_Forge_relative 2 = .ok (.invokevirtual 103, 3) := by decide +kernel
theorem d_Forge_relative_5 : decode b_Forge_relative 5 = .ok (.ifCond .eq 10, 3) := by decide +kernel
theorem d_Forge_relative_8 : decode b_Forge_relative 8 = .ok (.iload_n 2, 1) := by decide +kernel
theorem d_Forge_relative_9 : decode b_Forge_relative 9 = .ok (.invokestatic 45, 3) := by decide +kernel
theorem d_Forge_relative_12 : decode b_Forge_relative 12 = .ok (.ifCond .ne 5, 3) := by decide +kernel
theorem d_Forge_relative_15 : decode b_Forge_relative 15 = .ok (.iconst (-1), 1) := by decide +kernel
theorem d_Forge_relative_16 : decode b_Forge_relative 16 = .ok (.ireturn, 1) := by decide +kernel
theorem d_Forge_relative_17 : decode b_Forge_relative 17 = .ok (.aload_n 0, 1) := by decide +kernel
theorem d_Forge_relative_18 : decode b_Forge_relative 18 = .ok (.getfield 19, 3) := by decide +kernel
theorem d_Forge_relative_21 : decode b_Forge_relative 21 = .ok (.aload_n 0, 1) := by decide +kernel
theorem d_Forge_relative_22 : decode b_Forge_relative 22 = .ok (.getfield 12, 3) := by decide +kernel
theorem d_Forge_relative_25 : decode b_Forge_relative 25 = .ok (.iload_n 1, 1) := by decide +kernel
theorem d_Forge_relative_26 : decode b_Forge_relative 26 = .ok (.invokevirtual 106, 3) := by decide +kernel
theorem d_Forge_relative_29 : decode b_Forge_relative 29 = .ok (.astore_n 3, 1) := by decide +kernel
theorem d_Forge_relative_30 : decode b_Forge_relative 30 = .ok (.aload_n 3, 1) := by decide +kernel
theorem d_Forge_relative_31 : decode b_Forge_relative 31 = .ok (.iload_n 2, 1) := by decide +kernel
theorem d_Forge_relative_32 : decode b_Forge_relative 32 = .ok (.invokevirtual 110, 3) := by decide +kernel
theorem d_Forge_relative_35 : decode b_Forge_relative 35 = .ok (.ifCond .eq 18, 3) := by decide +kernel
theorem d_Forge_relative_38 : decode b_Forge_relative 38 = .ok (.aload_n 3, 1) := by decide +kernel
theorem d_Forge_relative_39 : decode b_Forge_relative 39 = .ok (.getfield 115, 3) := by decide +kernel
theorem d_Forge_relative_42 : decode b_Forge_relative 42 = .ok (.iload_n 2, 1) := by decide +kernel
theorem d_Forge_relative_43 : decode b_Forge_relative 43 = .ok (.laload, 1) := by decide +kernel
theorem d_Forge_relative_44 : decode b_Forge_relative 44 = .ok (.aload_n 3, 1) := by decide +kernel
theorem d_Forge_relative_45 : decode b_Forge_relative 45 = .ok (.invokevirtual 119, 3) := by decide +kernel
theorem d_Forge_relative_48 : decode b_Forge_relative 48 = .ok (.lsub, 1) := by decide +kernel
theorem d_Forge_relative_49 : decode b_Forge_relative 49 = .ok (.l2i, 1) := by decide +kernel
theorem d_Forge_relative_50 : decode b_Forge_relative 50 = .ok (.goto 5, 3) := by decide +kernel
theorem d_Forge_relative_53 : decode b_Forge_relative 53 = .ok (.bipush (-3), 2) := by decide +kernel
theorem d_Forge_relative_55 : decode b_Forge_relative 55 = .ok (.ireturn, 1) := by decide +kernel
theorem d_Forge_isTopNode_0 : decode b_Forge_isTopNode 0 = .ok (.iload_n 1, 1) := by decide +kernel
theorem d_Forge_isTopNode_1 : decode b_Forge_isTopNode 1 = .ok (.ifCond .lt 18, 3) := by decide +kernel
theorem d_Forge_isTopNode_4 : decode b_Forge_isTopNode 4 = .ok (.iload_n 1, 1) := by decide +kernel
theorem d_Forge_isTopNode_5 : decode b_Forge_isTopNode 5 = .ok (.aload_n 0, 1) := by decide +kernel
theorem d_Forge_isTopNode_6 : decode b_Forge_isTopNode 6 = .ok (.getfield 19, 3) := by decide +kernel
theorem d_Forge_isTopNode_9 : decode b_Forge_isTopNode 9 = .ok (.invokevirtual 99, 3) := by decide +kernel
theorem d_Forge_isTopNode_12 : decode b_Forge_isTopNode 12 = .ok (.if_icmp .ge 7, 3) := by decide +kernel
theorem d_Forge_isTopNode_15 : decode b_Forge_isTopNode 15 = .ok (.iconst 1, 1) := by decide +kernel
theorem d_Forge_isTopNode_16 : decode b_Forge_isTopNode 16 = .ok (.goto 4, 3) := by decide +kernel
theorem d_Forge_isTopNode_19 : decode b_Forge_isTopNode 19 = .ok (.iconst 0, 1) := by decide +kernel
theorem d_Forge_isTopNode_20 : decode b_Forge_isTopNode 20 = .ok (.ireturn, 1) := by decide +kernel
theorem d_Forge_choice_0 : decode b_Forge_choice 0 = .ok (.aload_n 0, 1) := by decide +kernel
theorem d_Forge_choice_1 : decode b_Forge_choice 1 = .ok (.iload_n 1, 1) := by decide +kernel
theorem d_Forge_choice_2 : decode b_Forge_choice 2 = .ok (.invokevirtual 103, 3) := by decide +kernel
theorem d_Forge_choice_5 : decode b_Forge_choice 5 = .ok (.ifCond .eq 10, 3) := by decide +kernel
theorem d_Forge_choice_8 : decode b_Forge_choice 8 = .ok (.iload_n 2, 1) := by decide +kernel
theorem d_Forge_choice_9 : decode b_Forge_choice 9 = .ok (.invokestatic 45, 3) := by decide +kernel
theorem d_Forge_choice_12 : decode b_Forge_choice 12 = .ok (.ifCond .ne 5, 3) := by decide +kernel
theorem d_Forge_choice_15 : decode b_Forge_choice 15 = .ok (.iconst (-1), 1) := by decide +kernel
theorem d_Forge_choice_16 : decode b_Forge_choice 16 = .ok (.ireturn, 1) := by decide +kernel
theorem d_Forge_choice_17 : decode b_Forge_choice 17 = .ok (.aload_n 0, 1) := by decide +kernel
theorem d_Forge_choice_18 : decode b_Forge_choice 18 = .ok (.getfield 19, 3) := by decide +kernel
theorem d_Forge_choice_21 : decode b_Forge_choice 21 = .ok (.aload_n 0, 1) := by decide +kernel
theorem d_Forge_choice_22 : decode b_Forge_choice 22 = .ok (.getfield 12, 3) := by decide +kernel
theorem d_Forge_choice_25 : decode b_Forge_choice 25 = .ok (.iload_n 1, 1) := by decide +kernel
theorem d_Forge_choice_26 : decode b_Forge_choice 26 = .ok (.invokevirtual 106, 3) := by decide +kernel
theorem d_Forge_choice_29 : decode b_Forge_choice 29 = .ok (.getfield 123, 3) := by decide +kernel
theorem d_Forge_choice_32 : decode b_Forge_choice 32 = .ok (.iload_n 2, 1) := by decide +kernel
theorem d_Forge_choice_33 : decode b_Forge_choice 33 = .ok (.iaload, 1) := by decide +kernel
theorem d_Forge_choice_34 : decode b_Forge_choice 34 = .ok (.ireturn, 1) := by decide +kernel
theorem d_Forge_cost_0 : decode b_Forge_cost 0 = .ok (.aload_n 0, 1) := by decide +kernel
theorem d_Forge_cost_1 : decode b_Forge_cost 1 = .ok (.getfield 19, 3) := by decide +kernel
theorem d_Forge_cost_4 : decode b_Forge_cost 4 = .ok (.getfield 80, 3) := by decide +kernel
theorem d_Forge_cost_7 : decode b_Forge_cost 7 = .ok (.ifCond .eq 10, 3) := by decide +kernel
theorem d_Forge_cost_10 : decode b_Forge_cost 10 = .ok (.iload_n 1, 1) := by decide +kernel
theorem d_Forge_cost_11 : decode b_Forge_cost 11 = .ok (.invokestatic 45, 3) := by decide +kernel
theorem d_Forge_cost_14 : decode b_Forge_cost 14 = .ok (.ifCond .ne 5, 3) := by decide +kernel
theorem d_Forge_cost_17 : decode b_Forge_cost 17 = .ok (.iconst (-1), 1) := by decide +kernel
theorem d_Forge_cost_18 : decode b_Forge_cost 18 = .ok (.ireturn, 1) := by decide +kernel
theorem d_Forge_cost_19 : decode b_Forge_cost 19 = .ok (.aload_n 0, 1) := by decide +kernel
theorem d_Forge_cost_20 : decode b_Forge_cost 20 = .ok (.getfield 19, 3) := by decide +kernel
theorem d_Forge_cost_23 : decode b_Forge_cost 23 = .ok (.aload_n 0, 1) := by decide +kernel
theorem d_Forge_cost_24 : decode b_Forge_cost 24 = .ok (.getfield 12, 3) := by decide +kernel
theorem d_Forge_cost_27 : decode b_Forge_cost 27 = .ok (.aload_n 0, 1) := by decide +kernel
theorem d_Forge_cost_28 : decode b_Forge_cost 28 = .ok (.getfield 19, 3) := by decide +kernel
theorem d_Forge_cost_31 : decode b_Forge_cost 31 = .ok (.invokevirtual 99, 3) := by decide +kernel
theorem d_Forge_cost_34 : decode b_Forge_cost 34 = .ok (.iconst 1, 1) := by decide +kernel
theorem d_Forge_cost_35 : decode b_Forge_cost 35 = .ok (.isub, 1) := by decide +kernel
theorem d_Forge_cost_36 : decode b_Forge_cost 36 = .ok (.invokevirtual 106, 3) := by decide +kernel
theorem d_Forge_cost_39 : decode b_Forge_cost 39 = .ok (.astore_n 2, 1) := by decide +kernel
theorem d_Forge_cost_40 : decode b_Forge_cost 40 = .ok (.aload_n 2, 1) := by decide +kernel
theorem d_Forge_cost_41 : decode b_Forge_cost 41 = .ok (.iload_n 1, 1) := by decide +kernel
theorem d_Forge_cost_42 : decode b_Forge_cost 42 = .ok (.invokevirtual 110, 3) := by decide +kernel
theorem d_Forge_cost_45 : decode b_Forge_cost 45 = .ok (.ifCond .eq 13, 3) := by decide +kernel
theorem d_Forge_cost_48 : decode b_Forge_cost 48 = .ok (.aload_n 2, 1) := by decide +kernel
theorem d_Forge_cost_49 : decode b_Forge_cost 49 = .ok (.getfield 115, 3) := by decide +kernel
theorem d_Forge_cost_52 : decode b_Forge_cost 52 = .ok (.iload_n 1, 1) := by decide +kernel
theorem d_Forge_cost_53 : decode b_Forge_cost 53 = .ok (.laload, 1) := by decide +kernel
theorem d_Forge_cost_54 : decode b_Forge_cost 54 = .ok (.l2i, 1) := by decide +kernel
theorem d_Forge_cost_55 : decode b_Forge_cost 55 = .ok (.goto 5, 3) := by decide +kernel
theorem d_Forge_cost_58 : decode b_Forge_cost 58 = .ok (.bipush (-3), 2) := by decide +kernel
theorem d_Forge_cost_60 : decode b_Forge_cost 60 = .ok (.ireturn, 1) := by decide +kernel
theorem d_Forge_registers_0 : decode b_Forge_registers 0 = .ok (.iload_n 1, 1) := by decide +kernel
theorem d_Forge_registers_1 : decode b_Forge_registers 1 = .ok (.iconst 1, 1) := by decide +kernel
theorem d_Forge_registers_2 : decode b_Forge_registers 2 = .ok (.if_icmp .lt 8, 3) := by decide +kernel
theorem d_Forge_registers_5 : decode b_Forge_registers 5 = .ok (.iload_n 1, 1) := by decide +kernel
theorem d_Forge_registers_6 : decode b_Forge_registers 6 = .ok (.iconst 4, 1) := by decide +kernel
theorem d_Forge_registers_7 : decode b_Forge_registers 7 = .ok (.if_icmp .le 5, 3) := by decide +kernel
theorem d_Forge_registers_10 : decode b_Forge_registers 10 = .ok (.iconst 0, 1) := by decide +kernel
theorem d_Forge_registers_11 : decode b_Forge_registers 11 = .ok (.ireturn, 1) := by decide +kernel
theorem d_Forge_registers_12 : decode b_Forge_registers 12 = .ok (.aload_n 0, 1) := by decide +kernel
theorem d_Forge_registers_13 : decode b_Forge_registers 13 = .ok (.iload_n 1, 1) := by decide +kernel
theorem d_Forge_registers_14 : decode b_Forge_registers 14 = .ok (.putfield 41, 3) := by decide +kernel
theorem d_Forge_registers_17 : decode b_Forge_registers 17 = .ok (.iconst 1, 1) := by decide +kernel
theorem d_Forge_registers_18 : decode b_Forge_registers 18 = .ok (.ireturn, 1) := by decide +kernel
theorem d_Forge_cover_0 : decode b_Forge_cover 0 = .ok (.aload_n 0, 1) := by decide +kernel
theorem d_Forge_cover_1 : decode b_Forge_cover 1 = .ok (.getfield 19, 3) := by decide +kernel
theorem d_Forge_cover_4 : decode b_Forge_cover 4 = .ok (.getfield 80, 3) := by decide +kernel
theorem d_Forge_cover_7 : decode b_Forge_cover 7 = .ok (.ifCond .ne 5, 3) := by decide +kernel
theorem d_Forge_cover_10 : decode b_Forge_cover 10 = .ok (.iconst (-1), 1) := by decide +kernel
theorem d_Forge_cover_11 : decode b_Forge_cover 11 = .ok (.ireturn, 1) := by decide +kernel
theorem d_Forge_cover_12 : decode b_Forge_cover 12 = .ok (.aload_n 0, 1) := by decide +kernel
theorem d_Forge_cover_13 : decode b_Forge_cover 13 = .ok (.getfield 19, 3) := by decide +kernel
theorem d_Forge_cover_16 : decode b_Forge_cover 16 = .ok (.aload_n 0, 1) := by decide +kernel
theorem d_Forge_cover_17 : decode b_Forge_cover 17 = .ok (.getfield 12, 3) := by decide +kernel
theorem d_Forge_cover_20 : decode b_Forge_cover 20 = .ok (.aload_n 0, 1) := by decide +kernel
theorem d_Forge_cover_21 : decode b_Forge_cover 21 = .ok (.getfield 19, 3) := by decide +kernel
theorem d_Forge_cover_24 : decode b_Forge_cover 24 = .ok (.invokevirtual 99, 3) := by decide +kernel
theorem d_Forge_cover_27 : decode b_Forge_cover 27 = .ok (.iconst 1, 1) := by decide +kernel
theorem d_Forge_cover_28 : decode b_Forge_cover 28 = .ok (.isub, 1) := by decide +kernel
theorem d_Forge_cover_29 : decode b_Forge_cover 29 = .ok (.invokevirtual 106, 3) := by decide +kernel
theorem d_Forge_cover_32 : decode b_Forge_cover 32 = .ok (.iconst 0, 1) := by decide +kernel
theorem d_Forge_cover_33 : decode b_Forge_cover 33 = .ok (.invokevirtual 110, 3) := by decide +kernel
theorem d_Forge_cover_36 : decode b_Forge_cover 36 = .ok (.ifCond .ne 6, 3) := by decide +kernel
theorem d_Forge_cover_39 : decode b_Forge_cover 39 = .ok (.bipush (-3), 2) := by decide +kernel
theorem d_Forge_cover_41 : decode b_Forge_cover 41 = .ok (.ireturn, 1) := by decide +kernel
theorem d_Forge_cover_42 : decode b_Forge_cover 42 = .ok (.aload_n 0, 1) := by decide +kernel
theorem d_Forge_cover_43 : decode b_Forge_cover 43 = .ok (.getfield 33, 3) := by decide +kernel
theorem d_Forge_cover_46 : decode b_Forge_cover 46 = .ok (.aload_n 0, 1) := by decide +kernel
theorem d_Forge_cover_47 : decode b_Forge_cover 47 = .ok (.getfield 12, 3) := by decide +kernel
theorem d_Forge_cover_50 : decode b_Forge_cover 50 = .ok (.aload_n 0, 1) := by decide +kernel
theorem d_Forge_cover_51 : decode b_Forge_cover 51 = .ok (.getfield 19, 3) := by decide +kernel
theorem d_Forge_cover_54 : decode b_Forge_cover 54 = .ok (.invokevirtual 126, 3) := by decide +kernel
theorem d_Forge_cover_57 : decode b_Forge_cover 57 = .ok (.aload_n 0, 1) := by decide +kernel
theorem d_Forge_cover_58 : decode b_Forge_cover 58 = .ok (.getfield 33, 3) := by decide +kernel
theorem d_Forge_cover_61 : decode b_Forge_cover 61 = .ok (.aload_n 0, 1) := by decide +kernel
theorem d_Forge_cover_62 : decode b_Forge_cover 62 = .ok (.getfield 41, 3) := by decide +kernel
theorem d_Forge_cover_65 : decode b_Forge_cover 65 = .ok (.invokevirtual 130, 3) := by decide +kernel
theorem d_Forge_cover_68 : decode b_Forge_cover 68 = .ok (.aload_n 0, 1) := by decide +kernel
theorem d_Forge_cover_69 : decode b_Forge_cover 69 = .ok (.getfield 33, 3) := by decide +kernel
theorem d_Forge_cover_72 : decode b_Forge_cover 72 = .ok (.getfield 134, 3) := by decide +kernel
theorem d_Forge_cover_75 : decode b_Forge_cover 75 = .ok (.ireturn, 1) := by decide +kernel
theorem d_Forge_instruction_0 : decode b_Forge_instruction 0 = .ok (.iload_n 1, 1) := by decide +kernel
theorem d_Forge_instruction_1 : decode b_Forge_instruction 1 = .ok (.ifCond .lt 23, 3) := by decide +kernel
theorem d_Forge_instruction_4 : decode b_Forge_instruction 4 = .ok (.iload_n 1, 1) := by decide +kernel
theorem d_Forge_instruction_5 : decode b_Forge_instruction 5 = .ok (.aload_n 0, 1) := by decide +kernel
theorem d_Forge_instruction_6 : decode b_Forge_instruction 6 = .ok (.getfield 33, 3) := by decide +kernel
theorem d_Forge_instruction_9 : decode b_Forge_instruction 9 = .ok (.getfield 134, 3) := by decide +kernel
theorem d_Forge_instruction_12 : decode b_Forge_instruction 12 = .ok (.if_icmp .ge 12, 3) := by decide +kernel
theorem d_Forge_instruction_15 : decode b_Forge_instruction 15 = .ok (.iload_n 2, 1) := by decide +kernel
theorem d_Forge_instruction_16 : decode b_Forge_instruction 16 = .ok (.ifCond .lt 8, 3) := by decide +kernel
theorem d_Forge_instruction_19 : decode b_Forge_instruction 19 = .ok (.iload_n 2, 1) := by decide +kernel
theorem d_Forge_instruction_20 : decode b_Forge_instruction 20 = .ok (.iconst 5, 1) := by decide +kernel
theorem d_Forge_instruction_21 : decode b_Forge_instruction 21 = .ok (.if_icmp .lt 5, 3) := by decide +kernel
theorem d_Forge_instruction_24 : decode b_Forge_instruction 24 = .ok (.iconst (-1), 1) := by decide +kernel
theorem d_Forge_instruction_25 : decode b_Forge_instruction 25 = .ok (.ireturn, 1) := by decide +kernel
theorem d_Forge_instruction_26 : decode b_Forge_instruction 26 = .ok (.aload_n 0, 1) := by decide +kernel
theorem d_Forge_instruction_27 : decode b_Forge_instruction 27 = .ok (.getfield 33, 3) := by decide +kernel
theorem d_Forge_instruction_30 : decode b_Forge_instruction 30 = .ok (.iload_n 1, 1) := by decide +kernel
theorem d_Forge_instruction_31 : decode b_Forge_instruction 31 = .ok (.iload_n 2, 1) := by decide +kernel
theorem d_Forge_instruction_32 : decode b_Forge_instruction 32 = .ok (.invokevirtual 135, 3) := by decide +kernel
theorem d_Forge_instruction_35 : decode b_Forge_instruction 35 = .ok (.ireturn, 1) := by decide +kernel
theorem d_Forge_slots_0 : decode b_Forge_slots 0 = .ok (.aload_n 0, 1) := by decide +kernel
theorem d_Forge_slots_1 : decode b_Forge_slots 1 = .ok (.getfield 33, 3) := by decide +kernel
theorem d_Forge_slots_4 : decode b_Forge_slots 4 = .ok (.getfield 139, 3) := by decide +kernel
theorem d_Forge_slots_7 : decode b_Forge_slots 7 = .ok (.ireturn, 1) := by decide +kernel
theorem d_Forge_set_0 : decode b_Forge_set 0 = .ok (.iload_n 1, 1) := by decide +kernel
theorem d_Forge_set_1 : decode b_Forge_set 1 = .ok (.invokestatic 142, 3) := by decide +kernel
theorem d_Forge_set_4 : decode b_Forge_set 4 = .ok (.ifCond .ne 5, 3) := by decide +kernel
theorem d_Forge_set_7 : decode b_Forge_set 7 = .ok (.iconst 0, 1) := by decide +kernel
theorem d_Forge_set_8 : decode b_Forge_set 8 = .ok (.ireturn, 1) := by decide +kernel
theorem d_Forge_set_9 : decode b_Forge_set 9 = .ok (.aload_n 0, 1) := by decide +kernel
theorem d_Forge_set_10 : decode b_Forge_set 10 = .ok (.getfield 37, 3) := by decide +kernel
theorem d_Forge_set_13 : decode b_Forge_set 13 = .ok (.iload_n 1, 1) := by decide +kernel
theorem d_Forge_set_14 : decode b_Forge_set 14 = .ok (.iload_n 2, 1) := by decide +kernel
theorem d_Forge_set_15 : decode b_Forge_set 15 = .ok (.iastore, 1) := by decide +kernel
theorem d_Forge_set_16 : decode b_Forge_set 16 = .ok (.iconst 1, 1) := by decide +kernel
theorem d_Forge_set_17 : decode b_Forge_set 17 = .ok (.ireturn, 1) := by decide +kernel
theorem d_Forge_run_0 : decode b_Forge_run 0 = .ok (.aload_n 0, 1) := by decide +kernel
theorem d_Forge_run_1 : decode b_Forge_run 1 = .ok (.getfield 33, 3) := by decide +kernel
theorem d_Forge_run_4 : decode b_Forge_run 4 = .ok (.aload_n 0, 1) := by decide +kernel
theorem d_Forge_run_5 : decode b_Forge_run 5 = .ok (.getfield 37, 3) := by decide +kernel
theorem d_Forge_run_8 : decode b_Forge_run 8 = .ok (.invokevirtual 145, 3) := by decide +kernel
theorem d_Forge_run_11 : decode b_Forge_run 11 = .ok (.ireturn, 1) := by decide +kernel
theorem d_Forge_resultOf_0 : decode b_Forge_resultOf 0 = .ok (.iload_n 0, 1) := by decide +kernel
theorem d_Forge_resultOf_1 : decode b_Forge_resultOf 1 = .ok (.tableswitch 78 0 7 #[47, 49, 54, 59, 62, 66, 70, 74], 47) := by decide +kernel
theorem d_Forge_resultOf_48 : decode b_Forge_resultOf 48 = .ok (.iload_n 1, 1) := by decide +kernel
theorem d_Forge_resultOf_49 : decode b_Forge_resultOf 49 = .ok (.ireturn, 1) := by decide +kernel
theorem d_Forge_resultOf_50 : decode b_Forge_resultOf 50 = .ok (.aload 4, 2) := by decide +kernel
theorem d_Forge_resultOf_52 : decode b_Forge_resultOf 52 = .ok (.iload_n 1, 1) := by decide +kernel
theorem d_Forge_resultOf_53 : decode b_Forge_resultOf 53 = .ok (.iaload, 1) := by decide +kernel
theorem d_Forge_resultOf_54 : decode b_Forge_resultOf 54 = .ok (.ireturn, 1) := by decide +kernel
theorem d_Forge_resultOf_55 : decode b_Forge_resultOf 55 = .ok (.bipush 100, 2) := by decide +kernel
theorem d_Forge_resultOf_57 : decode b_Forge_resultOf 57 = .ok (.iload_n 1, 1) := by decide +kernel
theorem d_Forge_resultOf_58 : decode b_Forge_resultOf 58 = .ok (.iadd, 1) := by decide +kernel
theorem d_Forge_resultOf_59 : decode b_Forge_resultOf 59 = .ok (.ireturn, 1) := by decide +kernel
theorem d_Forge_resultOf_60 : decode b_Forge_resultOf 60 = .ok (.iload_n 2, 1) := by decide +kernel
theorem d_Forge_resultOf_61 : decode b_Forge_resultOf 61 = .ok (.ineg, 1) := by decide +kernel
theorem d_Forge_resultOf_62 : decode b_Forge_resultOf 62 = .ok (.ireturn, 1) := by decide +kernel
theorem d_Forge_resultOf_63 : decode b_Forge_resultOf 63 = .ok (.iload_n 2, 1) := by decide +kernel
theorem d_Forge_resultOf_64 : decode b_Forge_resultOf 64 = .ok (.iload_n 2, 1) := by decide +kernel
theorem d_Forge_resultOf_65 : decode b_Forge_resultOf 65 = .ok (.iadd, 1) := by decide +kernel
theorem d_Forge_resultOf_66 : decode b_Forge_resultOf 66 = .ok (.ireturn, 1) := by decide +kernel
theorem d_Forge_resultOf_67 : decode b_Forge_resultOf 67 = .ok (.iload_n 2, 1) := by decide +kernel
theorem d_Forge_resultOf_68 : decode b_Forge_resultOf 68 = .ok (.iload_n 3, 1) := by decide +kernel
theorem d_Forge_resultOf_69 : decode b_Forge_resultOf 69 = .ok (.iadd, 1) := by decide +kernel
theorem d_Forge_resultOf_70 : decode b_Forge_resultOf 70 = .ok (.ireturn, 1) := by decide +kernel
theorem d_Forge_resultOf_71 : decode b_Forge_resultOf 71 = .ok (.iload_n 2, 1) := by decide +kernel
theorem d_Forge_resultOf_72 : decode b_Forge_resultOf 72 = .ok (.iload_n 3, 1) := by decide +kernel
theorem d_Forge_resultOf_73 : decode b_Forge_resultOf 73 = .ok (.isub, 1) := by decide +kernel
theorem d_Forge_resultOf_74 : decode b_Forge_resultOf 74 = .ok (.ireturn, 1) := by decide +kernel
theorem d_Forge_resultOf_75 : decode b_Forge_resultOf 75 = .ok (.iload_n 2, 1) := by decide +kernel
theorem d_Forge_resultOf_76 : decode b_Forge_resultOf 76 = .ok (.iload_n 3, 1) := by decide +kernel
theorem d_Forge_resultOf_77 : decode b_Forge_resultOf 77 = .ok (.imul, 1) := by decide +kernel
theorem d_Forge_resultOf_78 : decode b_Forge_resultOf 78 = .ok (.ireturn, 1) := by decide +kernel
theorem d_Forge_resultOf_79 : decode b_Forge_resultOf 79 = .ok (.iload_n 2, 1) := by decide +kernel
theorem d_Forge_resultOf_80 : decode b_Forge_resultOf 80 = .ok (.ireturn, 1) := by decide +kernel
theorem d_Forge_value_0 : decode b_Forge_value 0 = .ok (.aload_n 0, 1) := by decide +kernel
theorem d_Forge_value_1 : decode b_Forge_value 1 = .ok (.getfield 19, 3) := by decide +kernel
theorem d_Forge_value_4 : decode b_Forge_value 4 = .ok (.aload_n 0, 1) := by decide +kernel
theorem d_Forge_value_5 : decode b_Forge_value 5 = .ok (.getfield 37, 3) := by decide +kernel
theorem d_Forge_value_8 : decode b_Forge_value 8 = .ok (.invokevirtual 149, 3) := by decide +kernel
theorem d_Forge_value_11 : decode b_Forge_value 11 = .ok (.ireturn, 1) := by decide +kernel
end
section
/-! What stands at each place of the code. -/
theorem d_Pile_init_0 : decode b_Pile_init 0 = .ok (.aload_n 0, 1) := by decide +kernel
theorem d_Pile_init_1 : decode b_Pile_init 1 = .ok (.invokespecial 3, 3) := by decide +kernel
theorem d_Pile_init_4 : decode b_Pile_init 4 = .ok (.aload_n 0, 1) := by decide +kernel
theorem d_Pile_init_5 : decode b_Pile_init 5 = .ok (.bipush 40, 2) := by decide +kernel
theorem d_Pile_init_7 : decode b_Pile_init 7 = .ok (.newarray .int, 2) := by decide +kernel
theorem d_Pile_init_9 : decode b_Pile_init 9 = .ok (.putfield 9, 3) := by decide +kernel
theorem d_Pile_init_12 : decode b_Pile_init 12 = .ok (.aload_n 0, 1) := by decide +kernel
theorem d_Pile_init_13 : decode b_Pile_init 13 = .ok (.bipush 40, 2) := by decide +kernel
theorem d_Pile_init_15 : decode b_Pile_init 15 = .ok (.newarray .int, 2) := by decide +kernel
theorem d_Pile_init_17 : decode b_Pile_init 17 = .ok (.putfield 15, 3) := by decide +kernel
theorem d_Pile_init_20 : decode b_Pile_init 20 = .ok (.aload_n 0, 1) := by decide +kernel
theorem d_Pile_init_21 : decode b_Pile_init 21 = .ok (.bipush 40, 2) := by decide +kernel
theorem d_Pile_init_23 : decode b_Pile_init 23 = .ok (.newarray .int, 2) := by decide +kernel
theorem d_Pile_init_25 : decode b_Pile_init 25 = .ok (.putfield 18, 3) := by decide +kernel
theorem d_Pile_init_28 : decode b_Pile_init 28 = .ok (.aload_n 0, 1) := by decide +kernel
theorem d_Pile_init_29 : decode b_Pile_init 29 = .ok (.bipush 40, 2) := by decide +kernel
theorem d_Pile_init_31 : decode b_Pile_init 31 = .ok (.newarray .int, 2) := by decide +kernel
theorem d_Pile_init_33 : decode b_Pile_init 33 = .ok (.putfield 21, 3) := by decide +kernel
theorem d_Pile_init_36 : decode b_Pile_init 36 = .ok (.aload_n 0, 1) := by decide +kernel
theorem d_Pile_init_37 : decode b_Pile_init 37 = .ok (.bipush 40, 2) := by decide +kernel
theorem d_Pile_init_39 : decode b_Pile_init 39 = .ok (.newarray .int, 2) := by decide +kernel
theorem d_Pile_init_41 : decode b_Pile_init 41 = .ok (.putfield 24, 3) := by decide +kernel
theorem d_Pile_init_44 : decode b_Pile_init 44 = .ok (.aload_n 0, 1) := by decide +kernel
theorem d_Pile_init_45 : decode b_Pile_init 45 = .ok (.bipush 40, 2) := by decide +kernel
theorem d_Pile_init_47 : decode b_Pile_init 47 = .ok (.anewarray 27, 3) := by decide +kernel
theorem d_Pile_init_50 : decode b_Pile_init 50 = .ok (.putfield 29, 3) := by decide +kernel
theorem d_Pile_init_53 : decode b_Pile_init 53 = .ok (.aload_n 0, 1) := by decide +kernel
theorem d_Pile_init_54 : decode b_Pile_init 54 = .ok (.new 27, 3) := by decide +kernel
theorem d_Pile_init_57 : decode b_Pile_init 57 = .ok (.dup, 1) := by decide +kernel
theorem d_Pile_init_58 : decode b_Pile_init 58 = .ok (.invokespecial 33, 3) := by decide +kernel
theorem d_Pile_init_61 : decode b_Pile_init 61 = .ok (.putfield 34, 3) := by decide +kernel
theorem d_Pile_init_64 : decode b_Pile_init 64 = .ok (.iconst 0, 1) := by decide +kernel
theorem d_Pile_init_65 : decode b_Pile_init 65 = .ok (.istore_n 1, 1) := by decide +kernel
theorem d_Pile_init_66 : decode b_Pile_init 66 = .ok (.iload_n 1, 1) := by decide +kernel
theorem d_Pile_init_67 : decode b_Pile_init 67 = .ok (.aload_n 0, 1) := by decide +kernel
theorem d_Pile_init_68 : decode b_Pile_init 68 = .ok (.getfield 29, 3) := by decide +kernel
theorem d_Pile_init_71 : decode b_Pile_init 71 = .ok (.arraylength, 1) := by decide +kernel
theorem d_Pile_init_72 : decode b_Pile_init 72 = .ok (.if_icmp .ge 22, 3) := by decide +kernel
theorem d_Pile_init_75 : decode b_Pile_init 75 = .ok (.aload_n 0, 1) := by decide +kernel
theorem d_Pile_init_76 : decode b_Pile_init 76 = .ok (.getfield 29, 3) := by decide +kernel
theorem d_Pile_init_79 : decode b_Pile_init 79 = .ok (.iload_n 1, 1) := by decide +kernel
theorem d_Pile_init_80 : decode b_Pile_init 80 = .ok (.new 27, 3) := by decide +kernel
theorem d_Pile_init_83 : decode b_Pile_init 83 = .ok (.dup, 1) := by decide +kernel
theorem d_Pile_init_84 : decode b_Pile_init 84 = .ok (.invokespecial 33, 3) := by decide +kernel
theorem d_Pile_init_87 : decode b_Pile_init 87 = .ok (.aastore, 1) := by decide +kernel
theorem d_Pile_init_88 : decode b_Pile_init 88 = .ok (.iinc 1 1, 3) := by decide +kernel
theorem d_Pile_init_91 : decode b_Pile_init 91 = .ok (.goto (-25), 3) := by decide +kernel
theorem d_Pile_init_94 : decode b_Pile_init 94 = .ok (.return_, 1) := by decide +kernel
theorem d_Code_init_0 : decode b_Code_init 0 = .ok (.aload_n 0, 1) := by decide +kernel
theorem d_Code_init_1 : decode b_Code_init 1 = .ok (.invokespecial 3, 3) := by decide +kernel
theorem d_Code_init_4 : decode b_Code_init 4 = .ok (.aload_n 0, 1) := by decide +kernel
theorem d_Code_init_5 : decode b_Code_init 5 = .ok (.sipush 160, 3) := by decide +kernel
theorem d_Code_init_8 : decode b_Code_init 8 = .ok (.newarray .int, 2) := by decide +kernel
theorem d_Code_init_10 : decode b_Code_init 10 = .ok (.putfield 9, 3) := by decide +kernel
theorem d_Code_init_13 : decode b_Code_init 13 = .ok (.aload_n 0, 1) := by decide +kernel
theorem d_Code_init_14 : decode b_Code_init 14 = .ok (.sipush 160, 3) := by decide +kernel
theorem d_Code_init_17 : decode b_Code_init 17 = .ok (.newarray .int, 2) := by decide +kernel
theorem d_Code_init_19 : decode b_Code_init 19 = .ok (.putfield 15, 3) := by decide +kernel
theorem d_Code_init_22 : decode b_Code_init 22 = .ok (.aload_n 0, 1) := by decide +kernel
theorem d_Code_init_23 : decode b_Code_init 23 = .ok (.sipush 160, 3) := by decide +kernel
theorem d_Code_init_26 : decode b_Code_init 26 = .ok (.newarray .int, 2) := by decide +kernel
theorem d_Code_init_28 : decode b_Code_init 28 = .ok (.putfield 18, 3) := by decide +kernel
theorem d_Code_init_31 : decode b_Code_init 31 = .ok (.aload_n 0, 1) := by decide +kernel
theorem d_Code_init_32 : decode b_Code_init 32 = .ok (.sipush 160, 3) := by decide +kernel
theorem d_Code_init_35 : decode b_Code_init 35 = .ok (.newarray .int, 2) := by decide +kernel
theorem d_Code_init_37 : decode b_Code_init 37 = .ok (.putfield 21, 3) := by decide +kernel
theorem d_Code_init_40 : decode b_Code_init 40 = .ok (.aload_n 0, 1) := by decide +kernel
theorem d_Code_init_41 : decode b_Code_init 41 = .ok (.sipush 160, 3) := by decide +kernel
theorem d_Code_init_44 : decode b_Code_init 44 = .ok (.newarray .int, 2) := by decide +kernel
theorem d_Code_init_46 : decode b_Code_init 46 = .ok (.putfield 24, 3) := by decide +kernel
theorem d_Code_init_49 : decode b_Code_init 49 = .ok (.aload_n 0, 1) := by decide +kernel
theorem d_Code_init_50 : decode b_Code_init 50 = .ok (.sipush 160, 3) := by decide +kernel
theorem d_Code_init_53 : decode b_Code_init 53 = .ok (.newarray .int, 2) := by decide +kernel
theorem d_Code_init_55 : decode b_Code_init 55 = .ok (.putfield 27, 3) := by decide +kernel
theorem d_Code_init_58 : decode b_Code_init 58 = .ok (.aload_n 0, 1) := by decide +kernel
theorem d_Code_init_59 : decode b_Code_init 59 = .ok (.sipush 160, 3) := by decide +kernel
theorem d_Code_init_62 : decode b_Code_init 62 = .ok (.newarray .int, 2) := by decide +kernel
theorem d_Code_init_64 : decode b_Code_init 64 = .ok (.putfield 30, 3) := by decide +kernel
theorem d_Code_init_67 : decode b_Code_init 67 = .ok (.aload_n 0, 1) := by decide +kernel
theorem d_Code_init_68 : decode b_Code_init 68 = .ok (.sipush 160, 3) := by decide +kernel
theorem d_Code_init_71 : decode b_Code_init 71 = .ok (.newarray .int, 2) := by decide +kernel
theorem d_Code_init_73 : decode b_Code_init 73 = .ok (.putfield 33, 3) := by decide +kernel
theorem d_Code_init_76 : decode b_Code_init 76 = .ok (.aload_n 0, 1) := by decide +kernel
theorem d_Code_init_77 : decode b_Code_init 77 = .ok (.sipush 164, 3) := by decide +kernel
theorem d_Code_init_80 : decode b_Code_init 80 = .ok (.newarray .int, 2) := by decide +kernel
theorem d_Code_init_82 : decode b_Code_init 82 = .ok (.putfield 36, 3) := by decide +kernel
theorem d_Code_init_85 : decode b_Code_init 85 = .ok (.aload_n 0, 1) := by decide +kernel
theorem d_Code_init_86 : decode b_Code_init 86 = .ok (.iconst 4, 1) := by decide +kernel
theorem d_Code_init_87 : decode b_Code_init 87 = .ok (.newarray .int, 2) := by decide +kernel
theorem d_Code_init_89 : decode b_Code_init 89 = .ok (.putfield 39, 3) := by decide +kernel
theorem d_Code_init_92 : decode b_Code_init 92 = .ok (.aload_n 0, 1) := by decide +kernel
theorem d_Code_init_93 : decode b_Code_init 93 = .ok (.bipush 40, 2) := by decide +kernel
theorem d_Code_init_95 : decode b_Code_init 95 = .ok (.newarray .int, 2) := by decide +kernel
theorem d_Code_init_97 : decode b_Code_init 97 = .ok (.putfield 42, 3) := by decide +kernel
theorem d_Code_init_100 : decode b_Code_init 100 = .ok (.aload_n 0, 1) := by decide +kernel
theorem d_Code_init_101 : decode b_Code_init 101 = .ok (.bipush 40, 2) := by decide +kernel
theorem d_Code_init_103 : decode b_Code_init 103 = .ok (.newarray .int, 2) := by decide +kernel
theorem d_Code_init_105 : decode b_Code_init 105 = .ok (.putfield 45, 3) := by decide +kernel
theorem d_Code_init_108 : decode b_Code_init 108 = .ok (.aload_n 0, 1) := by decide +kernel
theorem d_Code_init_109 : decode b_Code_init 109 = .ok (.iconst 4, 1) := by decide +kernel
theorem d_Code_init_110 : decode b_Code_init 110 = .ok (.newarray .int, 2) := by decide +kernel
theorem d_Code_init_112 : decode b_Code_init 112 = .ok (.putfield 48, 3) := by decide +kernel
theorem d_Code_init_115 : decode b_Code_init 115 = .ok (.return_, 1) := by decide +kernel
theorem d_Pile_heightOfNew_0 : decode b_Pile_heightOfNew 0 = .ok (.getstatic 49, 3) := by decide +kernel
theorem d_Pile_heightOfNew_3 : decode b_Pile_heightOfNew 3 = .ok (.iload_n 1, 1) := by decide +kernel
theorem d_Pile_heightOfNew_4 : decode b_Pile_heightOfNew 4 = .ok (.iaload, 1) := by decide +kernel
theorem d_Pile_heightOfNew_5 : decode b_Pile_heightOfNew 5 = .ok (.ifCond .ne 5, 3) := by decide +kernel
theorem d_Pile_heightOfNew_8 : decode b_Pile_heightOfNew 8 = .ok (.iconst 1, 1) := by decide +kernel
theorem d_Pile_heightOfNew_9 : decode b_Pile_heightOfNew 9 = .ok (.ireturn, 1) := by decide +kernel
theorem d_Pile_heightOfNew_10 : decode b_Pile_heightOfNew 10 = .ok (.iconst 1, 1) := by decide +kernel
theorem d_Pile_heightOfNew_11 : decode b_Pile_heightOfNew 11 = .ok (.aload_n 0, 1) := by decide +kernel
theorem d_Pile_heightOfNew_12 : decode b_Pile_heightOfNew 12 = .ok (.getfield 21, 3) := by decide +kernel
theorem d_Pile_heightOfNew_15 : decode b_Pile_heightOfNew 15 = .ok (.aload_n 0, 1) := by decide +kernel
theorem d_Pile_heightOfNew_16 : decode b_Pile_heightOfNew 16 = .ok (.aload_n 0, 1) := by decide +kernel
theorem d_Pile_heightOfNew_17 : decode b_Pile_heightOfNew 17 = .ok (.getfield 42, 3) := by decide +kernel
theorem d_Pile_heightOfNew_20 : decode b_Pile_heightOfNew 20 = .ok (.iload_n 1, 1) := by decide +kernel
theorem d_Pile_heightOfNew_21 : decode b_Pile_heightOfNew 21 = .ok (.invokevirtual 52, 3) := by decide +kernel
theorem d_Pile_heightOfNew_24 : decode b_Pile_heightOfNew 24 = .ok (.iaload, 1) := by decide +kernel
theorem d_Pile_heightOfNew_25 : decode b_Pile_heightOfNew 25 = .ok (.aload_n 0, 1) := by decide +kernel
theorem d_Pile_heightOfNew_26 : decode b_Pile_heightOfNew 26 = .ok (.getfield 21, 3) := by decide +kernel
theorem d_Pile_heightOfNew_29 : decode b_Pile_heightOfNew 29 = .ok (.aload_n 0, 1) := by decide +kernel
theorem d_Pile_heightOfNew_30 : decode b_Pile_heightOfNew 30 = .ok (.getfield 42, 3) := by decide +kernel
theorem d_Pile_heightOfNew_33 : decode b_Pile_heightOfNew 33 = .ok (.iconst 1, 1) := by decide +kernel
theorem d_Pile_heightOfNew_34 : decode b_Pile_heightOfNew 34 = .ok (.isub, 1) := by decide +kernel
theorem d_Pile_heightOfNew_35 : decode b_Pile_heightOfNew 35 = .ok (.iaload, 1) := by decide +kernel
theorem d_Pile_heightOfNew_36 : decode b_Pile_heightOfNew 36 = .ok (.invokestatic 56, 3) := by decide +kernel
theorem d_Pile_heightOfNew_39 : decode b_Pile_heightOfNew 39 = .ok (.iadd, 1) := by decide +kernel
theorem d_Pile_heightOfNew_40 : decode b_Pile_heightOfNew 40 = .ok (.ireturn, 1) := by decide +kernel
theorem d_Pile_firstKid_0 : decode b_Pile_firstKid 0 = .ok (.getstatic 49, 3) := by decide +kernel
theorem d_Pile_firstKid_3 : decode b_Pile_firstKid 3 = .ok (.iload_n 2, 1) := by decide +kernel
theorem d_Pile_firstKid_4 : decode b_Pile_firstKid 4 = .ok (.iaload, 1) := by decide +kernel
theorem d_Pile_firstKid_5 : decode b_Pile_firstKid 5 = .ok (.iconst 2, 1) := by decide +kernel
theorem d_Pile_firstKid_6 : decode b_Pile_firstKid 6 = .ok (.if_icmp .ne 18, 3) := by decide +kernel
theorem d_Pile_firstKid_9 : decode b_Pile_firstKid 9 = .ok (.iload_n 1, 1) := by decide +kernel
theorem d_Pile_firstKid_10 : decode b_Pile_firstKid 10 = .ok (.iconst 1, 1) := by decide +kernel
theorem d_Pile_firstKid_11 : decode b_Pile_firstKid 11 = .ok (.isub, 1) := by decide +kernel
theorem d_Pile_firstKid_12 : decode b_Pile_firstKid 12 = .ok (.aload_n 0, 1) := by decide +kernel
theorem d_Pile_firstKid_13 : decode b_Pile_firstKid 13 = .ok (.getfield 18, 3) := by decide +kernel
theorem d_Pile_firstKid_16 : decode b_Pile_firstKid 16 = .ok (.iload_n 1, 1) := by decide +kernel
theorem d_Pile_firstKid_17 : decode b_Pile_firstKid 17 = .ok (.iconst 1, 1) := by decide +kernel
theorem d_Pile_firstKid_18 : decode b_Pile_firstKid 18 = .ok (.isub, 1) := by decide +kernel
theorem d_Pile_firstKid_19 : decode b_Pile_firstKid 19 = .ok (.iaload, 1) := by decide +kernel
theorem d_Pile_firstKid_20 : decode b_Pile_firstKid 20 = .ok (.isub, 1) := by decide +kernel
theorem d_Pile_firstKid_21 : decode b_Pile_firstKid 21 = .ok (.goto 6, 3) := by decide +kernel
theorem d_Pile_firstKid_24 : decode b_Pile_firstKid 24 = .ok (.iload_n 1, 1) := by decide +kernel
theorem d_Pile_firstKid_25 : decode b_Pile_firstKid 25 = .ok (.iconst 1, 1) := by decide +kernel
theorem d_Pile_firstKid_26 : decode b_Pile_firstKid 26 = .ok (.isub, 1) := by decide +kernel
theorem d_Pile_firstKid_27 : decode b_Pile_firstKid 27 = .ok (.ireturn, 1) := by decide +kernel
theorem d_Pile_add_0 : decode b_Pile_add 0 = .ok (.iconst 1, 1) := by decide +kernel
theorem d_Pile_add_1 : decode b_Pile_add 1 = .ok (.istore_n 3, 1) := by decide +kernel
theorem d_Pile_add_2 : decode b_Pile_add 2 = .ok (.getstatic 49, 3) := by decide +kernel
theorem d_Pile_add_5 : decode b_Pile_add 5 = .ok (.iload_n 1, 1) := by decide +kernel
theorem d_Pile_add_6 : decode b_Pile_add 6 = .ok (.iaload, 1) := by decide +kernel
theorem d_Pile_add_7 : decode b_Pile_add 7 = .ok (.iconst 1, 1) := by decide +kernel
theorem d_Pile_add_8 : decode b_Pile_add 8 = .ok (.if_icmp .lt 34, 3) := by decide +kernel
theorem d_Pile_add_11 : decode b_Pile_add 11 = .ok (.aload_n 0, 1) := by decide +kernel
theorem d_Pile_add_12 : decode b_Pile_add 12 = .ok (.aload_n 0, 1) := by decide +kernel
theorem d_Pile_add_13 : decode b_Pile_add 13 = .ok (.getfield 42, 3) := by decide +kernel
theorem d_Pile_add_16 : decode b_Pile_add 16 = .ok (.iload_n 1, 1) := by decide +kernel
theorem d_Pile_add_17 : decode b_Pile_add 17 = .ok (.invokevirtual 52, 3) := by decide +kernel
theorem d_Pile_add_20 : decode b_Pile_add 20 = .ok (.istore 4, 2) := by decide +kernel
theorem d_Pile_add_22 : decode b_Pile_add 22 = .ok (.iload_n 3, 1) := by decide +kernel
theorem d_Pile_add_23 : decode b_Pile_add 23 = .ok (.aload_n 0, 1) := by decide +kernel
theorem d_Pile_add_24 : decode b_Pile_add 24 = .ok (.getfield 42, 3) := by decide +kernel
theorem d_Pile_add_27 : decode b_Pile_add 27 = .ok (.iload 4, 2) := by decide +kernel
theorem d_Pile_add_29 : decode b_Pile_add 29 = .ok (.isub, 1) := by decide +kernel
theorem d_Pile_add_30 : decode b_Pile_add 30 = .ok (.iconst 1, 1) := by decide +kernel
theorem d_Pile_add_31 : decode b_Pile_add 31 = .ok (.isub, 1) := by decide +kernel
theorem d_Pile_add_32 : decode b_Pile_add 32 = .ok (.aload_n 0, 1) := by decide +kernel
theorem d_Pile_add_33 : decode b_Pile_add 33 = .ok (.getfield 18, 3) := by decide +kernel
theorem d_Pile_add_36 : decode b_Pile_add 36 = .ok (.iload 4, 2) := by decide +kernel
theorem d_Pile_add_38 : decode b_Pile_add 38 = .ok (.iaload, 1) := by decide +kernel
theorem d_Pile_add_39 : decode b_Pile_add 39 = .ok (.iadd, 1) := by decide +kernel
theorem d_Pile_add_40 : decode b_Pile_add 40 = .ok (.iadd, 1) := by decide +kernel
theorem d_Pile_add_41 : decode b_Pile_add 41 = .ok (.istore_n 3, 1) := by decide +kernel
theorem d_Pile_add_42 : decode b_Pile_add 42 = .ok (.aload_n 0, 1) := by decide +kernel
theorem d_Pile_add_43 : decode b_Pile_add 43 = .ok (.getfield 21, 3) := by decide +kernel
theorem d_Pile_add_46 : decode b_Pile_add 46 = .ok (.aload_n 0, 1) := by decide +kernel
theorem d_Pile_add_47 : decode b_Pile_add 47 = .ok (.getfield 42, 3) := by decide +kernel
theorem d_Pile_add_50 : decode b_Pile_add 50 = .ok (.aload_n 0, 1) := by decide +kernel
theorem d_Pile_add_51 : decode b_Pile_add 51 = .ok (.iload_n 1, 1) := by decide +kernel
theorem d_Pile_add_52 : decode b_Pile_add 52 = .ok (.invokevirtual 61, 3) := by decide +kernel
theorem d_Pile_add_55 : decode b_Pile_add 55 = .ok (.iastore, 1) := by decide +kernel
theorem d_Pile_add_56 : decode b_Pile_add 56 = .ok (.aload_n 0, 1) := by decide +kernel
theorem d_Pile_add_57 : decode b_Pile_add 57 = .ok (.getfield 18, 3) := by decide +kernel
theorem d_Pile_add_60 : decode b_Pile_add 60 = .ok (.aload_n 0, 1) := by decide +kernel
theorem d_Pile_add_61 : decode b_Pile_add 61 = .ok (.getfield 42, 3) := by decide +kernel
theorem d_Pile_add_64 : decode b_Pile_add 64 = .ok (.iload_n 3, 1) := by decide +kernel
theorem d_Pile_add_65 : decode b_Pile_add 65 = .ok (.iastore, 1) := by decide +kernel
theorem d_Pile_add_66 : decode b_Pile_add 66 = .ok (.aload_n 0, 1) := by decide +kernel
theorem d_Pile_add_67 : decode b_Pile_add 67 = .ok (.getfield 9, 3) := by decide +kernel
theorem d_Pile_add_70 : decode b_Pile_add 70 = .ok (.aload_n 0, 1) := by decide +kernel
theorem d_Pile_add_71 : decode b_Pile_add 71 = .ok (.getfield 42, 3) := by decide +kernel
theorem d_Pile_add_74 : decode b_Pile_add 74 = .ok (.iload_n 1, 1) := by decide +kernel
theorem d_Pile_add_75 : decode b_Pile_add 75 = .ok (.iastore, 1) := by decide +kernel
theorem d_Pile_add_76 : decode b_Pile_add 76 = .ok (.aload_n 0, 1) := by decide +kernel
theorem d_Pile_add_77 : decode b_Pile_add 77 = .ok (.getfield 15, 3) := by decide +kernel
theorem d_Pile_add_80 : decode b_Pile_add 80 = .ok (.aload_n 0, 1) := by decide +kernel
theorem d_Pile_add_81 : decode b_Pile_add 81 = .ok (.getfield 42, 3) := by decide +kernel
theorem d_Pile_add_84 : decode b_Pile_add 84 = .ok (.iload_n 2, 1) := by decide +kernel
theorem d_Pile_add_85 : decode b_Pile_add 85 = .ok (.iastore, 1) := by decide +kernel
theorem d_Pile_add_86 : decode b_Pile_add 86 = .ok (.aload_n 0, 1) := by decide +kernel
theorem d_Pile_add_87 : decode b_Pile_add 87 = .ok (.dup, 1) := by decide +kernel
theorem d_Pile_add_88 : decode b_Pile_add 88 = .ok (.getfield 42, 3) := by decide +kernel
theorem d_Pile_add_91 : decode b_Pile_add 91 = .ok (.iconst 1, 1) := by decide +kernel
theorem d_Pile_add_92 : decode b_Pile_add 92 = .ok (.iadd, 1) := by decide +kernel
theorem d_Pile_add_93 : decode b_Pile_add 93 = .ok (.putfield 42, 3) := by decide +kernel
theorem d_Pile_add_96 : decode b_Pile_add 96 = .ok (.aload_n 0, 1) := by decide +kernel
theorem d_Pile_add_97 : decode b_Pile_add 97 = .ok (.dup, 1) := by decide +kernel
theorem d_Pile_add_98 : decode b_Pile_add 98 = .ok (.getfield 38, 3) := by decide +kernel
theorem d_Pile_add_101 : decode b_Pile_add 101 = .ok (.iconst 1, 1) := by decide +kernel
theorem d_Pile_add_102 : decode b_Pile_add 102 = .ok (.getstatic 49, 3) := by decide +kernel
theorem d_Pile_add_105 : decode b_Pile_add 105 = .ok (.iload_n 1, 1) := by decide +kernel
theorem d_Pile_add_106 : decode b_Pile_add 106 = .ok (.iaload, 1) := by decide +kernel
theorem d_Pile_add_107 : decode b_Pile_add 107 = .ok (.isub, 1) := by decide +kernel
theorem d_Pile_add_108 : decode b_Pile_add 108 = .ok (.iadd, 1) := by decide +kernel
theorem d_Pile_add_109 : decode b_Pile_add 109 = .ok (.putfield 38, 3) := by decide +kernel
theorem d_Pile_add_112 : decode b_Pile_add 112 = .ok (.return_, 1) := by decide +kernel
theorem d_Pile_removeTop_0 : decode b_Pile_removeTop 0 = .ok (.aload_n 0, 1) := by decide +kernel
theorem d_Pile_removeTop_1 : decode b_Pile_removeTop 1 = .ok (.dup, 1) := by decide +kernel
theorem d_Pile_removeTop_2 : decode b_Pile_removeTop 2 = .ok (.getfield 42, 3) := by decide +kernel
theorem d_Pile_removeTop_5 : decode b_Pile_removeTop 5 = .ok (.aload_n 0, 1) := by decide +kernel
theorem d_Pile_removeTop_6 : decode b_Pile_removeTop 6 = .ok (.invokevirtual 45, 3) := by decide +kernel
theorem d_Pile_removeTop_9 : decode b_Pile_removeTop 9 = .ok (.isub, 1) := by decide +kernel
theorem d_Pile_removeTop_10 : decode b_Pile_removeTop 10 = .ok (.putfield 42, 3) := by decide +kernel
theorem d_Pile_removeTop_13 : decode b_Pile_removeTop 13 = .ok (.aload_n 0, 1) := by decide +kernel
theorem d_Pile_removeTop_14 : decode b_Pile_removeTop 14 = .ok (.dup, 1) := by decide +kernel
theorem d_Pile_removeTop_15 : decode b_Pile_removeTop 15 = .ok (.getfield 38, 3) := by decide +kernel
theorem d_Pile_removeTop_18 : decode b_Pile_removeTop 18 = .ok (.iconst 1, 1) := by decide +kernel
theorem d_Pile_removeTop_19 : decode b_Pile_removeTop 19 = .ok (.isub, 1) := by decide +kernel
theorem d_Pile_removeTop_20 : decode b_Pile_removeTop 20 = .ok (.putfield 38, 3) := by decide +kernel
theorem d_Pile_removeTop_23 : decode b_Pile_removeTop 23 = .ok (.aload_n 0, 1) := by decide +kernel
theorem d_Pile_removeTop_24 : decode b_Pile_removeTop 24 = .ok (.aload_n 0, 1) := by decide +kernel
theorem d_Pile_removeTop_25 : decode b_Pile_removeTop 25 = .ok (.getfield 65, 3) := by decide +kernel
theorem d_Pile_removeTop_28 : decode b_Pile_removeTop 28 = .ok (.aload_n 0, 1) := by decide +kernel
theorem d_Pile_removeTop_29 : decode b_Pile_removeTop 29 = .ok (.getfield 42, 3) := by decide +kernel
theorem d_Pile_removeTop_32 : decode b_Pile_removeTop 32 = .ok (.invokestatic 68, 3) := by decide +kernel
theorem d_Pile_removeTop_35 : decode b_Pile_removeTop 35 = .ok (.putfield 65, 3) := by decide +kernel
theorem d_Pile_removeTop_38 : decode b_Pile_removeTop 38 = .ok (.return_, 1) := by decide +kernel
theorem d_Pile_topSize_0 : decode b_Pile_topSize 0 = .ok (.aload_n 0, 1) := by decide +kernel
theorem d_Pile_topSize_1 : decode b_Pile_topSize 1 = .ok (.getfield 38, 3) := by decide +kernel
theorem d_Pile_topSize_4 : decode b_Pile_topSize 4 = .ok (.ifCond .ne 7, 3) := by decide +kernel
theorem d_Pile_topSize_7 : decode b_Pile_topSize 7 = .ok (.iconst 0, 1) := by decide +kernel
theorem d_Pile_topSize_8 : decode b_Pile_topSize 8 = .ok (.goto 14, 3) := by decide +kernel
theorem d_Pile_topSize_11 : decode b_Pile_topSize 11 = .ok (.aload_n 0, 1) := by decide +kernel
theorem d_Pile_topSize_12 : decode b_Pile_topSize 12 = .ok (.getfield 18, 3) := by decide +kernel
theorem d_Pile_topSize_15 : decode b_Pile_topSize 15 = .ok (.aload_n 0, 1) := by decide +kernel
theorem d_Pile_topSize_16 : decode b_Pile_topSize 16 = .ok (.getfield 42, 3) := by decide +kernel
theorem d_Pile_topSize_19 : decode b_Pile_topSize 19 = .ok (.iconst 1, 1) := by decide +kernel
theorem d_Pile_topSize_20 : decode b_Pile_topSize 20 = .ok (.isub, 1) := by decide +kernel
theorem d_Pile_topSize_21 : decode b_Pile_topSize 21 = .ok (.iaload, 1) := by decide +kernel
theorem d_Pile_topSize_22 : decode b_Pile_topSize 22 = .ok (.ireturn, 1) := by decide +kernel
theorem d_Pile_labelOf_0 : decode b_Pile_labelOf 0 = .ok (.aload_n 0, 1) := by decide +kernel
theorem d_Pile_labelOf_1 : decode b_Pile_labelOf 1 = .ok (.getfield 65, 3) := by decide +kernel
theorem d_Pile_labelOf_4 : decode b_Pile_labelOf 4 = .ok (.istore_n 3, 1) := by decide +kernel
theorem d_Pile_labelOf_5 : decode b_Pile_labelOf 5 = .ok (.iload_n 3, 1) := by decide +kernel
theorem d_Pile_labelOf_6 : decode b_Pile_labelOf 6 = .ok (.aload_n 0, 1) := by decide +kernel
theorem d_Pile_labelOf_7 : decode b_Pile_labelOf 7 = .ok (.getfield 42, 3) := by decide +kernel
theorem d_Pile_labelOf_10 : decode b_Pile_labelOf 10 = .ok (.if_icmp .ge 94, 3) := by decide +kernel
theorem d_Pile_labelOf_13 : decode b_Pile_labelOf 13 = .ok (.getstatic 49, 3) := by decide +kernel
theorem d_Pile_labelOf_16 : decode b_Pile_labelOf 16 = .ok (.aload_n 0, 1) := by decide +kernel
theorem d_Pile_labelOf_17 : decode b_Pile_labelOf 17 = .ok (.getfield 9, 3) := by decide +kernel
theorem d_Pile_labelOf_20 : decode b_Pile_labelOf 20 = .ok (.iload_n 3, 1) := by decide +kernel
theorem d_Pile_labelOf_21 : decode b_Pile_labelOf 21 = .ok (.iaload, 1) := by decide +kernel
theorem d_Pile_labelOf_22 : decode b_Pile_labelOf 22 = .ok (.iaload, 1) := by decide +kernel
theorem d_Pile_labelOf_23 : decode b_Pile_labelOf 23 = .ok (.istore 4, 2) := by decide +kernel
theorem d_Pile_labelOf_25 : decode b_Pile_labelOf 25 = .ok (.iload 4, 2) := by decide +kernel
theorem d_Pile_labelOf_27 : decode b_Pile_labelOf 27 = .ok (.ifCond .ne 10, 3) := by decide +kernel
theorem d_Pile_labelOf_30 : decode b_Pile_labelOf 30 = .ok (.aload_n 0, 1) := by decide +kernel
theorem d_Pile_labelOf_31 : decode b_Pile_labelOf 31 = .ok (.getfield 34, 3) := by decide +kernel
theorem d_Pile_labelOf_34 : decode b_Pile_labelOf 34 = .ok (.goto 19, 3) := by decide +kernel
theorem d_Pile_labelOf_37 : decode b_Pile_labelOf 37 = .ok (.aload_n 0, 1) := by decide +kernel
theorem d_Pile_labelOf_38 : decode b_Pile_labelOf 38 = .ok (.getfield 29, 3) := by decide +kernel
theorem d_Pile_labelOf_41 : decode b_Pile_labelOf 41 = .ok (.aload_n 0, 1) := by decide +kernel
theorem d_Pile_labelOf_42 : decode b_Pile_labelOf 42 = .ok (.iload_n 3, 1) := by decide +kernel
theorem d_Pile_labelOf_43 : decode b_Pile_labelOf 43 = .ok (.aload_n 0, 1) := by decide +kernel
theorem d_Pile_labelOf_44 : decode b_Pile_labelOf 44 = .ok (.getfield 9, 3) := by decide +kernel
theorem d_Pile_labelOf_47 : decode b_Pile_labelOf 47 = .ok (.iload_n 3, 1) := by decide +kernel
theorem d_Pile_labelOf_48 : decode b_Pile_labelOf 48 = .ok (.iaload, 1) := by decide +kernel
theorem d_Pile_labelOf_49 : decode b_Pile_labelOf 49 = .ok (.invokevirtual 52, 3) := by decide +kernel
theorem d_Pile_labelOf_52 : decode b_Pile_labelOf 52 = .ok (.aaload, 1) := by decide +kernel
theorem d_Pile_labelOf_53 : decode b_Pile_labelOf 53 = .ok (.astore 5, 2) := by decide +kernel
theorem d_Pile_labelOf_55 : decode b_Pile_labelOf 55 = .ok (.iload 4, 2) := by decide +kernel
theorem d_Pile_labelOf_57 : decode b_Pile_labelOf 57 = .ok (.iconst 2, 1) := by decide +kernel
theorem d_Pile_labelOf_58 : decode b_Pile_labelOf 58 = .ok (.if_icmp .ne 14, 3) := by decide +kernel
theorem d_Pile_labelOf_61 : decode b_Pile_labelOf 61 = .ok (.aload_n 0, 1) := by decide +kernel
theorem d_Pile_labelOf_62 : decode b_Pile_labelOf 62 = .ok (.getfield 29, 3) := by decide +kernel
theorem d_Pile_labelOf_65 : decode b_Pile_labelOf 65 = .ok (.iload_n 3, 1) := by decide +kernel
theorem d_Pile_labelOf_66 : decode b_Pile_labelOf 66 = .ok (.iconst 1, 1) := by decide +kernel
theorem d_Pile_labelOf_67 : decode b_Pile_labelOf 67 = .ok (.isub, 1) := by decide +kernel
theorem d_Pile_labelOf_68 : decode b_Pile_labelOf 68 = .ok (.aaload, 1) := by decide +kernel
theorem d_Pile_labelOf_69 : decode b_Pile_labelOf 69 = .ok (.goto 7, 3) := by decide +kernel
theorem d_Pile_labelOf_72 : decode b_Pile_labelOf 72 = .ok (.aload_n 0, 1) := by decide +kernel
theorem d_Pile_labelOf_73 : decode b_Pile_labelOf 73 = .ok (.getfield 34, 3) := by decide +kernel
theorem d_Pile_labelOf_76 : decode b_Pile_labelOf 76 = .ok (.astore 6, 2) := by decide +kernel
theorem d_Pile_labelOf_78 : decode b_Pile_labelOf 78 = .ok (.aload_n 0, 1) := by decide +kernel
theorem d_Pile_labelOf_79 : decode b_Pile_labelOf 79 = .ok (.getfield 29, 3) := by decide +kernel
theorem d_Pile_labelOf_82 : decode b_Pile_labelOf 82 = .ok (.iload_n 3, 1) := by decide +kernel
theorem d_Pile_labelOf_83 : decode b_Pile_labelOf 83 = .ok (.aaload, 1) := by decide +kernel
theorem d_Pile_labelOf_84 : decode b_Pile_labelOf 84 = .ok (.aload_n 1, 1) := by decide +kernel
theorem d_Pile_labelOf_85 : decode b_Pile_labelOf 85 = .ok (.aload_n 0, 1) := by decide +kernel
theorem d_Pile_labelOf_86 : decode b_Pile_labelOf 86 = .ok (.getfield 9, 3) := by decide +kernel
theorem d_Pile_labelOf_89 : decode b_Pile_labelOf 89 = .ok (.iload_n 3, 1) := by decide +kernel
theorem d_Pile_labelOf_90 : decode b_Pile_labelOf 90 = .ok (.iaload, 1) := by decide +kernel
theorem d_Pile_labelOf_91 : decode b_Pile_labelOf 91 = .ok (.aload 5, 2) := by decide +kernel
theorem d_Pile_labelOf_93 : decode b_Pile_labelOf 93 = .ok (.aload 6, 2) := by decide +kernel
theorem d_Pile_labelOf_95 : decode b_Pile_labelOf 95 = .ok (.invokevirtual 71, 3) := by decide +kernel
theorem d_Pile_labelOf_98 : decode b_Pile_labelOf 98 = .ok (.iinc 3 1, 3) := by decide +kernel
theorem d_Pile_labelOf_101 : decode b_Pile_labelOf 101 = .ok (.goto (-96), 3) := by decide +kernel
theorem d_Pile_labelOf_104 : decode b_Pile_labelOf 104 = .ok (.aload_n 0, 1) := by decide +kernel
theorem d_Pile_labelOf_105 : decode b_Pile_labelOf 105 = .ok (.aload_n 0, 1) := by decide +kernel
theorem d_Pile_labelOf_106 : decode b_Pile_labelOf 106 = .ok (.getfield 42, 3) := by decide +kernel
theorem d_Pile_labelOf_109 : decode b_Pile_labelOf 109 = .ok (.putfield 65, 3) := by decide +kernel
theorem d_Pile_labelOf_112 : decode b_Pile_labelOf 112 = .ok (.aload_n 0, 1) := by decide +kernel
theorem d_Pile_labelOf_113 : decode b_Pile_labelOf 113 = .ok (.getfield 29, 3) := by decide +kernel
theorem d_Pile_labelOf_116 : decode b_Pile_labelOf 116 = .ok (.aload_n 0, 1) := by decide +kernel
theorem d_Pile_labelOf_117 : decode b_Pile_labelOf 117 = .ok (.invokevirtual 75, 3) := by decide +kernel
theorem d_Pile_labelOf_120 : decode b_Pile_labelOf 120 = .ok (.iload_n 2, 1) := by decide +kernel
theorem d_Pile_labelOf_121 : decode b_Pile_labelOf 121 = .ok (.iadd, 1) := by decide +kernel
theorem d_Pile_labelOf_122 : decode b_Pile_labelOf 122 = .ok (.aaload, 1) := by decide +kernel
theorem d_Pile_labelOf_123 : decode b_Pile_labelOf 123 = .ok (.areturn, 1) := by decide +kernel
theorem d_Pile_topStart_0 : decode b_Pile_topStart 0 = .ok (.aload_n 0, 1) := by decide +kernel
theorem d_Pile_topStart_1 : decode b_Pile_topStart 1 = .ok (.getfield 42, 3) := by decide +kernel
theorem d_Pile_topStart_4 : decode b_Pile_topStart 4 = .ok (.aload_n 0, 1) := by decide +kernel
theorem d_Pile_topStart_5 : decode b_Pile_topStart 5 = .ok (.invokevirtual 45, 3) := by decide +kernel
theorem d_Pile_topStart_8 : decode b_Pile_topStart 8 = .ok (.isub, 1) := by decide +kernel
theorem d_Pile_topStart_9 : decode b_Pile_topStart 9 = .ok (.ireturn, 1) := by decide +kernel
theorem d_Code_write_0 : decode b_Code_write 0 = .ok (.aload_n 0, 1) := by decide +kernel
theorem d_Code_write_1 : decode b_Code_write 1 = .ok (.iconst 0, 1) := by decide +kernel
theorem d_Code_write_2 : decode b_Code_write 2 = .ok (.putfield 51, 3) := by decide +kernel
theorem d_Code_write_5 : decode b_Code_write 5 = .ok (.aload_n 0, 1) := by decide +kernel
theorem d_Code_write_6 : decode b_Code_write 6 = .ok (.aload_n 1, 1) := by decide +kernel
theorem d_Code_write_7 : decode b_Code_write 7 = .ok (.aload_n 2, 1) := by decide +kernel
theorem d_Code_write_8 : decode b_Code_write 8 = .ok (.invokevirtual 55, 3) := by decide +kernel
theorem d_Code_write_11 : decode b_Code_write 11 = .ok (.aload_n 2, 1) := by decide +kernel
theorem d_Code_write_12 : decode b_Code_write 12 = .ok (.invokevirtual 59, 3) := by decide +kernel
theorem d_Code_write_15 : decode b_Code_write 15 = .ok (.istore_n 3, 1) := by decide +kernel
theorem d_Code_write_16 : decode b_Code_write 16 = .ok (.iload_n 3, 1) := by decide +kernel
theorem d_Code_write_17 : decode b_Code_write 17 = .ok (.aload_n 2, 1) := by decide +kernel
theorem d_Code_write_18 : decode b_Code_write 18 = .ok (.getfield 65, 3) := by decide +kernel
theorem d_Code_write_21 : decode b_Code_write 21 = .ok (.if_icmp .ge 90, 3) := by decide +kernel
theorem d_Code_write_24 : decode b_Code_write 24 = .ok (.aload_n 0, 1) := by decide +kernel
theorem d_Code_write_25 : decode b_Code_write 25 = .ok (.aload_n 1, 1) := by decide +kernel
theorem d_Code_write_26 : decode b_Code_write 26 = .ok (.aload_n 2, 1) := by decide +kernel
theorem d_Code_write_27 : decode b_Code_write 27 = .ok (.iload_n 3, 1) := by decide +kernel
theorem d_Code_write_28 : decode b_Code_write 28 = .ok (.invokevirtual 68, 3) := by decide +kernel
theorem d_Code_write_31 : decode b_Code_write 31 = .ok (.istore 4, 2) := by decide +kernel
theorem d_Code_write_33 : decode b_Code_write 33 = .ok (.aload_n 0, 1) := by decide +kernel
theorem d_Code_write_34 : decode b_Code_write 34 = .ok (.aload_n 2, 1) := by decide +kernel
theorem d_Code_write_35 : decode b_Code_write 35 = .ok (.iload_n 3, 1) := by decide +kernel
theorem d_Code_write_36 : decode b_Code_write 36 = .ok (.aload_n 0, 1) := by decide +kernel
theorem d_Code_write_37 : decode b_Code_write 37 = .ok (.getfield 48, 3) := by decide +kernel
theorem d_Code_write_40 : decode b_Code_write 40 = .ok (.iload 4, 2) := by decide +kernel
theorem d_Code_write_42 : decode b_Code_write 42 = .ok (.iconst 1, 1) := by decide +kernel
theorem d_Code_write_43 : decode b_Code_write 43 = .ok (.isub, 1) := by decide +kernel
theorem d_Code_write_44 : decode b_Code_write 44 = .ok (.iaload, 1) := by decide +kernel
theorem d_Code_write_45 : decode b_Code_write 45 = .ok (.invokevirtual 72, 3) := by decide +kernel
theorem d_Code_write_48 : decode b_Code_write 48 = .ok (.iload 4, 2) := by decide +kernel
theorem d_Code_write_50 : decode b_Code_write 50 = .ok (.iconst 2, 1) := by decide +kernel
theorem d_Code_write_51 : decode b_Code_write 51 = .ok (.isub, 1) := by decide +kernel
theorem d_Code_write_52 : decode b_Code_write 52 = .ok (.istore 5, 2) := by decide +kernel
theorem d_Code_write_54 : decode b_Code_write 54 = .ok (.iload 5, 2) := by decide +kernel
theorem d_Code_write_56 : decode b_Code_write 56 = .ok (.ifCond .lt 37, 3) := by decide +kernel
theorem d_Code_write_59 : decode b_Code_write 59 = .ok (.aload_n 0, 1) := by decide +kernel
theorem d_Code_write_60 : decode b_Code_write 60 = .ok (.aload_n 0, 1) := by decide +kernel
theorem d_Code_write_61 : decode b_Code_write 61 = .ok (.getfield 48, 3) := by decide +kernel
theorem d_Code_write_64 : decode b_Code_write 64 = .ok (.iload 5, 2) := by decide +kernel
theorem d_Code_write_66 : decode b_Code_write 66 = .ok (.iaload, 1) := by decide +kernel
theorem d_Code_write_67 : decode b_Code_write 67 = .ok (.iload_n 3, 1) := by decide +kernel
theorem d_Code_write_68 : decode b_Code_write 68 = .ok (.aload_n 2, 1) := by decide +kernel
theorem d_Code_write_69 : decode b_Code_write 69 = .ok (.invokevirtual 59, 3) := by decide +kernel
theorem d_Code_write_72 : decode b_Code_write 72 = .ok (.isub, 1) := by decide +kernel
theorem d_Code_write_73 : decode b_Code_write 73 = .ok (.bipush 8, 2) := by decide +kernel
theorem d_Code_write_75 : decode b_Code_write 75 = .ok (.iconst 0, 1) := by decide +kernel
theorem d_Code_write_76 : decode b_Code_write 76 = .ok (.aload_n 0, 1) := by decide +kernel
theorem d_Code_write_77 : decode b_Code_write 77 = .ok (.getfield 51, 3) := by decide +kernel
theorem d_Code_write_80 : decode b_Code_write 80 = .ok (.iconst 1, 1) := by decide +kernel
theorem d_Code_write_81 : decode b_Code_write 81 = .ok (.isub, 1) := by decide +kernel
theorem d_Code_write_82 : decode b_Code_write 82 = .ok (.bipush (-3), 2) := by decide +kernel
theorem d_Code_write_84 : decode b_Code_write 84 = .ok (.invokevirtual 76, 3) := by decide +kernel
theorem d_Code_write_87 : decode b_Code_write 87 = .ok (.iinc 5 (-1), 3) := by decide +kernel
theorem d_Code_write_90 : decode b_Code_write 90 = .ok (.goto (-36), 3) := by decide +kernel
theorem d_Code_write_93 : decode b_Code_write 93 = .ok (.aload_n 0, 1) := by decide +kernel
theorem d_Code_write_94 : decode b_Code_write 94 = .ok (.getfield 45, 3) := by decide +kernel
theorem d_Code_write_97 : decode b_Code_write 97 = .ok (.iload_n 3, 1) := by decide +kernel
theorem d_Code_write_98 : decode b_Code_write 98 = .ok (.aload_n 0, 1) := by decide +kernel
theorem d_Code_write_99 : decode b_Code_write 99 = .ok (.getfield 51, 3) := by decide +kernel
theorem d_Code_write_102 : decode b_Code_write 102 = .ok (.iconst 1, 1) := by decide +kernel
theorem d_Code_write_103 : decode b_Code_write 103 = .ok (.isub, 1) := by decide +kernel
theorem d_Code_write_104 : decode b_Code_write 104 = .ok (.iastore, 1) := by decide +kernel
theorem d_Code_write_105 : decode b_Code_write 105 = .ok (.iinc 3 1, 3) := by decide +kernel
theorem d_Code_write_108 : decode b_Code_write 108 = .ok (.goto (-92), 3) := by decide +kernel
theorem d_Code_write_111 : decode b_Code_write 111 = .ok (.return_, 1) := by decide +kernel
theorem d_Code_chooseKinds_0 : decode b_Code_chooseKinds 0 = .ok (.aload_n 0, 1) := by decide +kernel
theorem d_Code_chooseKinds_1 : decode b_Code_chooseKinds 1 = .ok (.getfield 42, 3) := by decide +kernel
theorem d_Code_chooseKinds_4 : decode b_Code_chooseKinds 4 = .ok (.aload_n 2, 1) := by decide +kernel
theorem d_Code_chooseKinds_5 : decode b_Code_chooseKinds 5 = .ok (.getfield 65, 3) := by decide +kernel
theorem d_Code_chooseKinds_8 : decode b_Code_chooseKinds 8 = .ok (.iconst 1, 1) := by decide +kernel
theorem d_Code_chooseKinds_9 : decode b_Code_chooseKinds 9 = .ok (.isub, 1) := by decide +kernel
theorem d_Code_chooseKinds_10 : decode b_Code_chooseKinds 10 = .ok (.iconst 0, 1) := by decide +kernel
theorem d_Code_chooseKinds_11 : decode b_Code_chooseKinds 11 = .ok (.iastore, 1) := by decide +kernel
theorem d_Code_chooseKinds_12 : decode b_Code_chooseKinds 12 = .ok (.aload_n 2, 1) := by decide +kernel
theorem d_Code_chooseKinds_13 : decode b_Code_chooseKinds 13 = .ok (.getfield 65, 3) := by decide +kernel
theorem d_Code_chooseKinds_16 : decode b_Code_chooseKinds 16 = .ok (.iconst 1, 1) := by decide +kernel
theorem d_Code_chooseKinds_17 : decode b_Code_chooseKinds 17 = .ok (.isub, 1) := by decide +kernel
theorem d_Code_chooseKinds_18 : decode b_Code_chooseKinds 18 = .ok (.istore_n 3, 1) := by decide +kernel
theorem d_Code_chooseKinds_19 : decode b_Code_chooseKinds 19 = .ok (.iload_n 3, 1) := by decide +kernel
theorem d_Code_chooseKinds_20 : decode b_Code_chooseKinds 20 = .ok (.aload_n 2, 1) := by decide +kernel
theorem d_Code_chooseKinds_21 : decode b_Code_chooseKinds 21 = .ok (.invokevirtual 59, 3) := by decide +kernel
theorem d_Code_chooseKinds_24 : decode b_Code_chooseKinds 24 = .ok (.if_icmp .lt 87, 3) := by decide +kernel
theorem d_Code_chooseKinds_27 : decode b_Code_chooseKinds 27 = .ok (.aload_n 0, 1) := by decide +kernel
theorem d_Code_chooseKinds_28 : decode b_Code_chooseKinds 28 = .ok (.getfield 48, 3) := by decide +kernel
theorem d_Code_chooseKinds_31 : decode b_Code_chooseKinds 31 = .ok (.aload_n 0, 1) := by decide +kernel
theorem d_Code_chooseKinds_32 : decode b_Code_chooseKinds 32 = .ok (.aload_n 1, 1) := by decide +kernel
theorem d_Code_chooseKinds_33 : decode b_Code_chooseKinds 33 = .ok (.aload_n 2, 1) := by decide +kernel
theorem d_Code_chooseKinds_34 : decode b_Code_chooseKinds 34 = .ok (.iload_n 3, 1) := by decide +kernel
theorem d_Code_chooseKinds_35 : decode b_Code_chooseKinds 35 = .ok (.invokevirtual 68, 3) := by decide +kernel
theorem d_Code_chooseKinds_38 : decode b_Code_chooseKinds 38 = .ok (.iconst 1, 1) := by decide +kernel
theorem d_Code_chooseKinds_39 : decode b_Code_chooseKinds 39 = .ok (.isub, 1) := by decide +kernel
theorem d_Code_chooseKinds_40 : decode b_Code_chooseKinds 40 = .ok (.iaload, 1) := by decide +kernel
theorem d_Code_chooseKinds_41 : decode b_Code_chooseKinds 41 = .ok (.istore 4, 2) := by decide +kernel
theorem d_Code_chooseKinds_43 : decode b_Code_chooseKinds 43 = .ok (.aload_n 2, 1) := by decide +kernel
theorem d_Code_chooseKinds_44 : decode b_Code_chooseKinds 44 = .ok (.getfield 80, 3) := by decide +kernel
theorem d_Code_chooseKinds_47 : decode b_Code_chooseKinds 47 = .ok (.iload_n 3, 1) := by decide +kernel
theorem d_Code_chooseKinds_48 : decode b_Code_chooseKinds 48 = .ok (.iaload, 1) := by decide +kernel
theorem d_Code_chooseKinds_49 : decode b_Code_chooseKinds 49 = .ok (.istore 5, 2) := by decide +kernel
theorem d_Code_chooseKinds_51 : decode b_Code_chooseKinds 51 = .ok (.getstatic 81, 3) := by decide +kernel
theorem d_Code_chooseKinds_54 : decode b_Code_chooseKinds 54 = .ok (.iload 5, 2) := by decide +kernel
theorem d_Code_chooseKinds_56 : decode b_Code_chooseKinds 56 = .ok (.iaload, 1) := by decide +kernel
theorem d_Code_chooseKinds_57 : decode b_Code_chooseKinds 57 = .ok (.iconst 1, 1) := by decide +kernel
theorem d_Code_chooseKinds_58 : decode b_Code_chooseKinds 58 = .ok (.if_icmp .lt 22, 3) := by decide +kernel
theorem d_Code_chooseKinds_61 : decode b_Code_chooseKinds 61 = .ok (.aload_n 0, 1) := by decide +kernel
theorem d_Code_chooseKinds_62 : decode b_Code_chooseKinds 62 = .ok (.getfield 42, 3) := by decide +kernel
theorem d_Code_chooseKinds_65 : decode b_Code_chooseKinds 65 = .ok (.aload_n 2, 1) := by decide +kernel
theorem d_Code_chooseKinds_66 : decode b_Code_chooseKinds 66 = .ok (.iload_n 3, 1) := by decide +kernel
theorem d_Code_chooseKinds_67 : decode b_Code_chooseKinds 67 = .ok (.iload 5, 2) := by decide +kernel
theorem d_Code_chooseKinds_69 : decode b_Code_chooseKinds 69 = .ok (.invokevirtual 84, 3) := by decide +kernel
theorem d_Code_chooseKinds_72 : decode b_Code_chooseKinds 72 = .ok (.aload_n 1, 1) := by decide +kernel
theorem d_Code_chooseKinds_73 : decode b_Code_chooseKinds 73 = .ok (.getfield 88, 3) := by decide +kernel
theorem d_Code_chooseKinds_76 : decode b_Code_chooseKinds 76 = .ok (.iload 4, 2) := by decide +kernel
theorem d_Code_chooseKinds_78 : decode b_Code_chooseKinds 78 = .ok (.iaload, 1) := by decide +kernel
theorem d_Code_chooseKinds_79 : decode b_Code_chooseKinds 79 = .ok (.iastore, 1) := by decide +kernel
theorem d_Code_chooseKinds_80 : decode b_Code_chooseKinds 80 = .ok (.getstatic 81, 3) := by decide +kernel
theorem d_Code_chooseKinds_83 : decode b_Code_chooseKinds 83 = .ok (.iload 5, 2) := by decide +kernel
theorem d_Code_chooseKinds_85 : decode b_Code_chooseKinds 85 = .ok (.iaload, 1) := by decide +kernel
theorem d_Code_chooseKinds_86 : decode b_Code_chooseKinds 86 = .ok (.iconst 2, 1) := by decide +kernel
theorem d_Code_chooseKinds_87 : decode b_Code_chooseKinds 87 = .ok (.if_icmp .ne 18, 3) := by decide +kernel
theorem d_Code_chooseKinds_90 : decode b_Code_chooseKinds 90 = .ok (.aload_n 0, 1) := by decide +kernel
theorem d_Code_chooseKinds_91 : decode b_Code_chooseKinds 91 = .ok (.getfield 42, 3) := by decide +kernel
theorem d_Code_chooseKinds_94 : decode b_Code_chooseKinds 94 = .ok (.iload_n 3, 1) := by decide +kernel
theorem d_Code_chooseKinds_95 : decode b_Code_chooseKinds 95 = .ok (.iconst 1, 1) := by decide +kernel
theorem d_Code_chooseKinds_96 : decode b_Code_chooseKinds 96 = .ok (.isub, 1) := by decide +kernel
theorem d_Code_chooseKinds_97 : decode b_Code_chooseKinds 97 = .ok (.aload_n 1, 1) := by decide +kernel
theorem d_Code_chooseKinds_98 : decode b_Code_chooseKinds 98 = .ok (.getfield 91, 3) := by decide +kernel
theorem d_Code_chooseKinds_101 : decode b_Code_chooseKinds 101 = .ok (.iload 4, 2) := by decide +kernel
theorem d_Code_chooseKinds_103 : decode b_Code_chooseKinds 103 = .ok (.iaload, 1) := by decide +kernel
theorem d_Code_chooseKinds_104 : decode b_Code_chooseKinds 104 = .ok (.iastore, 1) := by decide +kernel
theorem d_Code_chooseKinds_105 : decode b_Code_chooseKinds 105 = .ok (.iinc 3 (-1), 3) := by decide +kernel
theorem d_Code_chooseKinds_108 : decode b_Code_chooseKinds 108 = .ok (.goto (-89), 3) := by decide +kernel
theorem d_Code_chooseKinds_111 : decode b_Code_chooseKinds 111 = .ok (.return_, 1) := by decide +kernel
theorem d_Code_followChoices_0 : decode b_Code_followChoices 0 = .ok (.aload_n 0, 1) := by decide +kernel
theorem d_Code_followChoices_1 : decode b_Code_followChoices 1 = .ok (.getfield 42, 3) := by decide +kernel
theorem d_Code_followChoices_4 : decode b_Code_followChoices 4 = .ok (.iload_n 3, 1) := by decide +kernel
theorem d_Code_followChoices_5 : decode b_Code_followChoices 5 = .ok (.iaload, 1) := by decide +kernel
theorem d_Code_followChoices_6 : decode b_Code_followChoices 6 = .ok (.istore 4, 2) := by decide +kernel
theorem d_Code_followChoices_8 : decode b_Code_followChoices 8 = .ok (.iconst 0, 1) := by decide +kernel
theorem d_Code_followChoices_9 : decode b_Code_followChoices 9 = .ok (.istore 5, 2) := by decide +kernel
theorem d_Code_followChoices_11 : decode b_Code_followChoices 11 = .ok (.iconst 1, 1) := by decide +kernel
theorem d_Code_followChoices_12 : decode b_Code_followChoices 12 = .ok (.istore 6, 2) := by decide +kernel
theorem d_Code_followChoices_14 : decode b_Code_followChoices 14 = .ok (.iload 6, 2) := by decide +kernel
theorem d_Code_followChoices_16 : decode b_Code_followChoices 16 = .ok (.ifCond .eq 66, 3) := by decide +kernel
theorem d_Code_followChoices_19 : decode b_Code_followChoices 19 = .ok (.iload 5, 2) := by decide +kernel
theorem d_Code_followChoices_21 : decode b_Code_followChoices 21 = .ok (.iconst 4, 1) := by decide +kernel
theorem d_Code_followChoices_22 : decode b_Code_followChoices 22 = .ok (.if_icmp .ge 60, 3) := by decide +kernel
theorem d_Code_followChoices_25 : decode b_Code_followChoices 25 = .ok (.aload_n 2, 1) := by decide +kernel
theorem d_Code_followChoices_26 : decode b_Code_followChoices 26 = .ok (.getfield 92, 3) := by decide +kernel
theorem d_Code_followChoices_29 : decode b_Code_followChoices 29 = .ok (.iload_n 3, 1) := by decide +kernel
theorem d_Code_followChoices_30 : decode b_Code_followChoices 30 = .ok (.aaload, 1) := by decide +kernel
theorem d_Code_followChoices_31 : decode b_Code_followChoices 31 = .ok (.getfield 96, 3) := by decide +kernel
theorem d_Code_followChoices_34 : decode b_Code_followChoices 34 = .ok (.iload 4, 2) := by decide +kernel
theorem d_Code_followChoices_36 : decode b_Code_followChoices 36 = .ok (.iaload, 1) := by decide +kernel
theorem d_Code_followChoices_37 : decode b_Code_followChoices 37 = .ok (.istore 7, 2) := by decide +kernel
theorem d_Code_followChoices_39 : decode b_Code_followChoices 39 = .ok (.aload_n 0, 1) := by decide +kernel
theorem d_Code_followChoices_40 : decode b_Code_followChoices 40 = .ok (.getfield 48, 3) := by decide +kernel
theorem d_Code_followChoices_43 : decode b_Code_followChoices 43 = .ok (.iload 5, 2) := by decide +kernel
theorem d_Code_followChoices_45 : decode b_Code_followChoices 45 = .ok (.iload 7, 2) := by decide +kernel
theorem d_Code_followChoices_47 : decode b_Code_followChoices 47 = .ok (.iastore, 1) := by decide +kernel
theorem d_Code_followChoices_48 : decode b_Code_followChoices 48 = .ok (.iinc 5 1, 3) := by decide +kernel
theorem d_Code_followChoices_51 : decode b_Code_followChoices 51 = .ok (.aload_n 1, 1) := by decide +kernel
theorem d_Code_followChoices_52 : decode b_Code_followChoices 52 = .ok (.getfield 101, 3) := by decide +kernel
theorem d_Code_followChoices_55 : decode b_Code_followChoices 55 = .ok (.iload 7, 2) := by decide +kernel
theorem d_Code_followChoices_57 : decode b_Code_followChoices 57 = .ok (.iaload, 1) := by decide +kernel
theorem d_Code_followChoices_58 : decode b_Code_followChoices 58 = .ok (.bipush 8, 2) := by decide +kernel
theorem d_Code_followChoices_60 : decode b_Code_followChoices 60 = .ok (.if_icmp .ne 7, 3) := by decide +kernel
theorem d_Code_followChoices_63 : decode b_Code_followChoices 63 = .ok (.iconst 1, 1) := by decide +kernel
theorem d_Code_followChoices_64 : decode b_Code_followChoices 64 = .ok (.goto 4, 3) := by decide +kernel
theorem d_Code_followChoices_67 : decode b_Code_followChoices 67 = .ok (.iconst 0, 1) := by decide +kernel
theorem d_Code_followChoices_68 : decode b_Code_followChoices 68 = .ok (.istore 6, 2) := by decide +kernel
theorem d_Code_followChoices_70 : decode b_Code_followChoices 70 = .ok (.aload_n 1, 1) := by decide +kernel
theorem d_Code_followChoices_71 : decode b_Code_followChoices 71 = .ok (.getfield 88, 3) := by decide +kernel
theorem d_Code_followChoices_74 : decode b_Code_followChoices 74 = .ok (.iload 7, 2) := by decide +kernel
theorem d_Code_followChoices_76 : decode b_Code_followChoices 76 = .ok (.iaload, 1) := by decide +kernel
theorem d_Code_followChoices_77 : decode b_Code_followChoices 77 = .ok (.istore 4, 2) := by decide +kernel
theorem d_Code_followChoices_79 : decode b_Code_followChoices 79 = .ok (.goto (-65), 3) := by decide +kernel
theorem d_Code_followChoices_82 : decode b_Code_followChoices 82 = .ok (.iload 5, 2) := by decide +kernel
theorem d_Code_followChoices_84 : decode b_Code_followChoices 84 = .ok (.ireturn, 1) := by decide +kernel
theorem d_Code_writeOperator_0 : decode b_Code_writeOperator 0 = .ok (.aload_n 1, 1) := by decide +kernel
theorem d_Code_writeOperator_1 : decode b_Code_writeOperator 1 = .ok (.getfield 80, 3) := by decide +kernel
theorem d_Code_writeOperator_4 : decode b_Code_writeOperator 4 = .ok (.iload_n 2, 1) := by decide +kernel
theorem d_Code_writeOperator_5 : decode b_Code_writeOperator 5 = .ok (.iaload, 1) := by decide +kernel
theorem d_Code_writeOperator_6 : decode b_Code_writeOperator 6 = .ok (.istore 4, 2) := by decide +kernel
theorem d_Code_writeOperator_8 : decode b_Code_writeOperator 8 = .ok (.getstatic 81, 3) := by decide +kernel
theorem d_Code_writeOperator_11 : decode b_Code_writeOperator 11 = .ok (.iload 4, 2) := by decide +kernel
theorem d_Code_writeOperator_13 : decode b_Code_writeOperator 13 = .ok (.iaload, 1) := by decide +kernel
theorem d_Code_writeOperator_14 : decode b_Code_writeOperator 14 = .ok (.iconst 1, 1) := by decide +kernel
theorem d_Code_writeOperator_15 : decode b_Code_writeOperator 15 = .ok (.if_icmp .lt 18, 3) := by decide +kernel
theorem d_Code_writeOperator_18 : decode b_Code_writeOperator 18 = .ok (.aload_n 0, 1) := by decide +kernel
theorem d_Code_writeOperator_19 : decode b_Code_writeOperator 19 = .ok (.getfield 45, 3) := by decide +kernel
theorem d_Code_writeOperator_22 : decode b_Code_writeOperator 22 = .ok (.aload_n 1, 1) := by decide +kernel
theorem d_Code_writeOperator_23 : decode b_Code_writeOperator 23 = .ok (.iload_n 2, 1) := by decide +kernel
theorem d_Code_writeOperator_24 : decode b_Code_writeOperator 24 = .ok (.iload 4, 2) := by decide +kernel
theorem d_Code_writeOperator_26 : decode b_Code_writeOperator 26 = .ok (.invokevirtual 84, 3) := by decide +kernel
theorem d_Code_writeOperator_29 : decode b_Code_writeOperator 29 = .ok (.iaload, 1) := by decide +kernel
theorem d_Code_writeOperator_30 : decode b_Code_writeOperator 30 = .ok (.goto 5, 3) := by decide +kernel
theorem d_Code_writeOperator_33 : decode b_Code_writeOperator 33 = .ok (.bipush (-3), 2) := by decide +kernel
theorem d_Code_writeOperator_35 : decode b_Code_writeOperator 35 = .ok (.istore 5, 2) := by decide +kernel
theorem d_Code_writeOperator_37 : decode b_Code_writeOperator 37 = .ok (.getstatic 81, 3) := by decide +kernel
theorem d_Code_writeOperator_40 : decode b_Code_writeOperator 40 = .ok (.iload 4, 2) := by decide +kernel
theorem d_Code_writeOperator_42 : decode b_Code_writeOperator 42 = .ok (.iaload, 1) := by decide +kernel
theorem d_Code_writeOperator_43 : decode b_Code_writeOperator 43 = .ok (.iconst 2, 1) := by decide +kernel
theorem d_Code_writeOperator_44 : decode b_Code_writeOperator 44 = .ok (.if_icmp .ne 14, 3) := by decide +kernel
theorem d_Code_writeOperator_47 : decode b_Code_writeOperator 47 = .ok (.aload_n 0, 1) := by decide +kernel
theorem d_Code_writeOperator_48 : decode b_Code_writeOperator 48 = .ok (.getfield 45, 3) := by decide +kernel
theorem d_Code_writeOperator_51 : decode b_Code_writeOperator 51 = .ok (.iload_n 2, 1) := by decide +kernel
theorem d_Code_writeOperator_52 : decode b_Code_writeOperator 52 = .ok (.iconst 1, 1) := by decide +kernel
theorem d_Code_writeOperator_53 : decode b_Code_writeOperator 53 = .ok (.isub, 1) := by decide +kernel
theorem d_Code_writeOperator_54 : decode b_Code_writeOperator 54 = .ok (.iaload, 1) := by decide +kernel
theorem d_Code_writeOperator_55 : decode b_Code_writeOperator 55 = .ok (.goto 5, 3) := by decide +kernel
theorem d_Code_writeOperator_58 : decode b_Code_writeOperator 58 = .ok (.bipush (-3), 2) := by decide +kernel
theorem d_Code_writeOperator_60 : decode b_Code_writeOperator 60 = .ok (.istore 6, 2) := by decide +kernel
theorem d_Code_writeOperator_62 : decode b_Code_writeOperator 62 = .ok (.aload_n 0, 1) := by decide +kernel
theorem d_Code_writeOperator_63 : decode b_Code_writeOperator 63 = .ok (.iload_n 3, 1) := by decide +kernel
theorem d_Code_writeOperator_64 : decode b_Code_writeOperator 64 = .ok (.iload_n 2, 1) := by decide +kernel
theorem d_Code_writeOperator_65 : decode b_Code_writeOperator 65 = .ok (.aload_n 1, 1) := by decide +kernel
theorem d_Code_writeOperator_66 : decode b_Code_writeOperator 66 = .ok (.invokevirtual 59, 3) := by decide +kernel
theorem d_Code_writeOperator_69 : decode b_Code_writeOperator 69 = .ok (.isub, 1) := by decide +kernel
theorem d_Code_writeOperator_70 : decode b_Code_writeOperator 70 = .ok (.iload 4, 2) := by decide +kernel
theorem d_Code_writeOperator_72 : decode b_Code_writeOperator 72 = .ok (.aload_n 1, 1) := by decide +kernel
theorem d_Code_writeOperator_73 : decode b_Code_writeOperator 73 = .ok (.getfield 102, 3) := by decide +kernel
theorem d_Code_writeOperator_76 : decode b_Code_writeOperator 76 = .ok (.iload_n 2, 1) := by decide +kernel
theorem d_Code_writeOperator_77 : decode b_Code_writeOperator 77 = .ok (.iaload, 1) := by decide +kernel
theorem d_Code_writeOperator_78 : decode b_Code_writeOperator 78 = .ok (.iload 5, 2) := by decide +kernel
theorem d_Code_writeOperator_80 : decode b_Code_writeOperator 80 = .ok (.iload 6, 2) := by decide +kernel
theorem d_Code_writeOperator_82 : decode b_Code_writeOperator 82 = .ok (.invokevirtual 76, 3) := by decide +kernel
theorem d_Code_writeOperator_85 : decode b_Code_writeOperator 85 = .ok (.return_, 1) := by decide +kernel
theorem d_Code_append_0 : decode b_Code_append 0 = .ok (.aload_n 0, 1) := by decide +kernel
theorem d_Code_append_1 : decode b_Code_append 1 = .ok (.getfield 9, 3) := by decide +kernel
theorem d_Code_append_4 : decode b_Code_append 4 = .ok (.aload_n 0, 1) := by decide +kernel
theorem d_Code_append_5 : decode b_Code_append 5 = .ok (.getfield 51, 3) := by decide +kernel
theorem d_Code_append_8 : decode b_Code_append 8 = .ok (.iload_n 1, 1) := by decide +kernel
theorem d_Code_append_9 : decode b_Code_append 9 = .ok (.iastore, 1) := by decide +kernel
theorem d_Code_append_10 : decode b_Code_append 10 = .ok (.aload_n 0, 1) := by decide +kernel
theorem d_Code_append_11 : decode b_Code_append 11 = .ok (.getfield 15, 3) := by decide +kernel
theorem d_Code_append_14 : decode b_Code_append 14 = .ok (.aload_n 0, 1) := by decide +kernel
theorem d_Code_append_15 : decode b_Code_append 15 = .ok (.getfield 51, 3) := by decide +kernel
theorem d_Code_append_18 : decode b_Code_append 18 = .ok (.iload_n 2, 1) := by decide +kernel
theorem d_Code_append_19 : decode b_Code_append 19 = .ok (.iastore, 1) := by decide +kernel
theorem d_Code_append_20 : decode b_Code_append 20 = .ok (.aload_n 0, 1) := by decide +kernel
theorem d_Code_append_21 : decode b_Code_append 21 = .ok (.getfield 18, 3) := by decide +kernel
theorem d_Code_append_24 : decode b_Code_append 24 = .ok (.aload_n 0, 1) := by decide +kernel
theorem d_Code_append_25 : decode b_Code_append 25 = .ok (.getfield 51, 3) := by decide +kernel
theorem d_Code_append_28 : decode b_Code_append 28 = .ok (.iload_n 3, 1) := by decide +kernel
theorem d_Code_append_29 : decode b_Code_append 29 = .ok (.iastore, 1) := by decide +kernel
theorem d_Code_append_30 : decode b_Code_append 30 = .ok (.aload_n 0, 1) := by decide +kernel
theorem d_Code_append_31 : decode b_Code_append 31 = .ok (.getfield 21, 3) := by decide +kernel
theorem d_Code_append_34 : decode b_Code_append 34 = .ok (.aload_n 0, 1) := by decide +kernel
theorem d_Code_append_35 : decode b_Code_append 35 = .ok (.getfield 51, 3) := by decide +kernel
theorem d_Code_append_38 : decode b_Code_append 38 = .ok (.iload 4, 2) := by decide +kernel
theorem d_Code_append_40 : decode b_Code_append 40 = .ok (.iastore, 1) := by decide +kernel
theorem d_Code_append_41 : decode b_Code_append 41 = .ok (.aload_n 0, 1) := by decide +kernel
theorem d_Code_append_42 : decode b_Code_append 42 = .ok (.getfield 24, 3) := by decide +kernel
theorem d_Code_append_45 : decode b_Code_append 45 = .ok (.aload_n 0, 1) := by decide +kernel
theorem d_Code_append_46 : decode b_Code_append 46 = .ok (.getfield 51, 3) := by decide +kernel
theorem d_Code_append_49 : decode b_Code_append 49 = .ok (.iload 5, 2) := by decide +kernel
theorem d_Code_append_51 : decode b_Code_append 51 = .ok (.iastore, 1) := by decide +kernel
theorem d_Code_append_52 : decode b_Code_append 52 = .ok (.aload_n 0, 1) := by decide +kernel
theorem d_Code_append_53 : decode b_Code_append 53 = .ok (.getfield 27, 3) := by decide +kernel
theorem d_Code_append_56 : decode b_Code_append 56 = .ok (.aload_n 0, 1) := by decide +kernel
theorem d_Code_append_57 : decode b_Code_append 57 = .ok (.getfield 51, 3) := by decide +kernel
theorem d_Code_append_60 : decode b_Code_append 60 = .ok (.iload 6, 2) := by decide +kernel
theorem d_Code_append_62 : decode b_Code_append 62 = .ok (.iastore, 1) := by decide +kernel
theorem d_Code_append_63 : decode b_Code_append 63 = .ok (.aload_n 0, 1) := by decide +kernel
theorem d_Code_append_64 : decode b_Code_append 64 = .ok (.getfield 30, 3) := by decide +kernel
theorem d_Code_append_67 : decode b_Code_append 67 = .ok (.aload_n 0, 1) := by decide +kernel
theorem d_Code_append_68 : decode b_Code_append 68 = .ok (.getfield 51, 3) := by decide +kernel
theorem d_Code_append_71 : decode b_Code_append 71 = .ok (.aload_n 0, 1) := by decide +kernel
theorem d_Code_append_72 : decode b_Code_append 72 = .ok (.getfield 51, 3) := by decide +kernel
theorem d_Code_append_75 : decode b_Code_append 75 = .ok (.iastore, 1) := by decide +kernel
theorem d_Code_append_76 : decode b_Code_append 76 = .ok (.iload 5, 2) := by decide +kernel
theorem d_Code_append_78 : decode b_Code_append 78 = .ok (.bipush (-3), 2) := by decide +kernel
theorem d_Code_append_80 : decode b_Code_append 80 = .ok (.if_icmp .eq 14, 3) := by decide +kernel
theorem d_Code_append_83 : decode b_Code_append 83 = .ok (.aload_n 0, 1) := by decide +kernel
theorem d_Code_append_84 : decode b_Code_append 84 = .ok (.getfield 30, 3) := by decide +kernel
theorem d_Code_append_87 : decode b_Code_append 87 = .ok (.iload 5, 2) := by decide +kernel
theorem d_Code_append_89 : decode b_Code_append 89 = .ok (.aload_n 0, 1) := by decide +kernel
theorem d_Code_append_90 : decode b_Code_append 90 = .ok (.getfield 51, 3) := by decide +kernel
theorem d_Code_append_93 : decode b_Code_append 93 = .ok (.iastore, 1) := by decide +kernel
theorem d_Code_append_94 : decode b_Code_append 94 = .ok (.iload 6, 2) := by decide +kernel
theorem d_Code_append_96 : decode b_Code_append 96 = .ok (.bipush (-3), 2) := by decide +kernel
theorem d_Code_append_98 : decode b_Code_append 98 = .ok (.if_icmp .eq 14, 3) := by decide +kernel
theorem d_Code_append_101 : decode b_Code_append 101 = .ok (.aload_n 0, 1) := by decide +kernel
theorem d_Code_append_102 : decode b_Code_append 102 = .ok (.getfield 30, 3) := by decide +kernel
theorem d_Code_append_105 : decode b_Code_append 105 = .ok (.iload 6, 2) := by decide +kernel
theorem d_Code_append_107 : decode b_Code_append 107 = .ok (.aload_n 0, 1) := by decide +kernel
theorem d_Code_append_108 : decode b_Code_append 108 = .ok (.getfield 51, 3) := by decide +kernel
theorem d_Code_append_111 : decode b_Code_append 111 = .ok (.iastore, 1) := by decide +kernel
theorem d_Code_append_112 : decode b_Code_append 112 = .ok (.aload_n 0, 1) := by decide +kernel
theorem d_Code_append_113 : decode b_Code_append 113 = .ok (.dup, 1) := by decide +kernel
theorem d_Code_append_114 : decode b_Code_append 114 = .ok (.getfield 51, 3) := by decide +kernel
theorem d_Code_append_117 : decode b_Code_append 117 = .ok (.iconst 1, 1) := by decide +kernel
theorem d_Code_append_118 : decode b_Code_append 118 = .ok (.iadd, 1) := by decide +kernel
theorem d_Code_append_119 : decode b_Code_append 119 = .ok (.putfield 51, 3) := by decide +kernel
theorem d_Code_append_122 : decode b_Code_append 122 = .ok (.return_, 1) := by decide +kernel
theorem d_Code_givePlaces_0 : decode b_Code_givePlaces 0 = .ok (.aload_n 0, 1) := by decide +kernel
theorem d_Code_givePlaces_1 : decode b_Code_givePlaces 1 = .ok (.iconst 0, 1) := by decide +kernel
theorem d_Code_givePlaces_2 : decode b_Code_givePlaces 2 = .ok (.putfield 103, 3) := by decide +kernel
theorem d_Code_givePlaces_5 : decode b_Code_givePlaces 5 = .ok (.aload_n 0, 1) := by decide +kernel
theorem d_Code_givePlaces_6 : decode b_Code_givePlaces 6 = .ok (.getfield 39, 3) := by decide +kernel
theorem d_Code_givePlaces_9 : decode b_Code_givePlaces 9 = .ok (.iconst (-1), 1) := by decide +kernel
theorem d_Code_givePlaces_10 : decode b_Code_givePlaces 10 = .ok (.invokestatic 106, 3) := by decide +kernel
theorem d_Code_givePlaces_13 : decode b_Code_givePlaces 13 = .ok (.iconst 0, 1) := by decide +kernel
theorem d_Code_givePlaces_14 : decode b_Code_givePlaces 14 = .ok (.istore_n 2, 1) := by decide +kernel
theorem d_Code_givePlaces_15 : decode b_Code_givePlaces 15 = .ok (.iload_n 2, 1) := by decide +kernel
theorem d_Code_givePlaces_16 : decode b_Code_givePlaces 16 = .ok (.aload_n 0, 1) := by decide +kernel
theorem d_Code_givePlaces_17 : decode b_Code_givePlaces 17 = .ok (.getfield 51, 3) := by decide +kernel
theorem d_Code_givePlaces_20 : decode b_Code_givePlaces 20 = .ok (.if_icmp .ge 49, 3) := by decide +kernel
theorem d_Code_givePlaces_23 : decode b_Code_givePlaces 23 = .ok (.aload_n 0, 1) := by decide +kernel
theorem d_Code_givePlaces_24 : decode b_Code_givePlaces 24 = .ok (.iload_n 2, 1) := by decide +kernel
theorem d_Code_givePlaces_25 : decode b_Code_givePlaces 25 = .ok (.iload_n 1, 1) := by decide +kernel
theorem d_Code_givePlaces_26 : decode b_Code_givePlaces 26 = .ok (.invokevirtual 112, 3) := by decide +kernel
theorem d_Code_givePlaces_29 : decode b_Code_givePlaces 29 = .ok (.aload_n 0, 1) := by decide +kernel
theorem d_Code_givePlaces_30 : decode b_Code_givePlaces 30 = .ok (.iload_n 1, 1) := by decide +kernel
theorem d_Code_givePlaces_31 : decode b_Code_givePlaces 31 = .ok (.invokevirtual 116, 3) := by decide +kernel
theorem d_Code_givePlaces_34 : decode b_Code_givePlaces 34 = .ok (.istore_n 3, 1) := by decide +kernel
theorem d_Code_givePlaces_35 : decode b_Code_givePlaces 35 = .ok (.iload_n 3, 1) := by decide +kernel
theorem d_Code_givePlaces_36 : decode b_Code_givePlaces 36 = .ok (.iconst (-1), 1) := by decide +kernel
theorem d_Code_givePlaces_37 : decode b_Code_givePlaces 37 = .ok (.if_icmp .ne 12, 3) := by decide +kernel
theorem d_Code_givePlaces_40 : decode b_Code_givePlaces 40 = .ok (.aload_n 0, 1) := by decide +kernel
theorem d_Code_givePlaces_41 : decode b_Code_givePlaces 41 = .ok (.iload_n 2, 1) := by decide +kernel
theorem d_Code_givePlaces_42 : decode b_Code_givePlaces 42 = .ok (.iload_n 1, 1) := by decide +kernel
theorem d_Code_givePlaces_43 : decode b_Code_givePlaces 43 = .ok (.invokevirtual 120, 3) := by decide +kernel
theorem d_Code_givePlaces_46 : decode b_Code_givePlaces 46 = .ok (.goto 17, 3) := by decide +kernel
theorem d_Code_givePlaces_49 : decode b_Code_givePlaces 49 = .ok (.aload_n 0, 1) := by decide +kernel
theorem d_Code_givePlaces_50 : decode b_Code_givePlaces 50 = .ok (.getfield 39, 3) := by decide +kernel
theorem d_Code_givePlaces_53 : decode b_Code_givePlaces 53 = .ok (.iload_n 3, 1) := by decide +kernel
theorem d_Code_givePlaces_54 : decode b_Code_givePlaces 54 = .ok (.iload_n 2, 1) := by decide +kernel
theorem d_Code_givePlaces_55 : decode b_Code_givePlaces 55 = .ok (.iastore, 1) := by decide +kernel
theorem d_Code_givePlaces_56 : decode b_Code_givePlaces 56 = .ok (.aload_n 0, 1) := by decide +kernel
theorem d_Code_givePlaces_57 : decode b_Code_givePlaces 57 = .ok (.getfield 33, 3) := by decide +kernel
theorem d_Code_givePlaces_60 : decode b_Code_givePlaces 60 = .ok (.iload_n 2, 1) := by decide +kernel
theorem d_Code_givePlaces_61 : decode b_Code_givePlaces 61 = .ok (.iload_n 3, 1) := by decide +kernel
theorem d_Code_givePlaces_62 : decode b_Code_givePlaces 62 = .ok (.iastore, 1) := by decide +kernel
theorem d_Code_givePlaces_63 : decode b_Code_givePlaces 63 = .ok (.iinc 2 1, 3) := by decide +kernel
theorem d_Code_givePlaces_66 : decode b_Code_givePlaces 66 = .ok (.goto (-51), 3) := by decide +kernel
theorem d_Code_givePlaces_69 : decode b_Code_givePlaces 69 = .ok (.return_, 1) := by decide +kernel
theorem d_Code_releaseUntil_0 : decode b_Code_releaseUntil 0 = .ok (.iconst 0, 1) := by decide +kernel
theorem d_Code_releaseUntil_1 : decode b_Code_releaseUntil 1 = .ok (.istore_n 3, 1) := by decide +kernel
theorem d_Code_releaseUntil_2 : decode b_Code_releaseUntil 2 = .ok (.iload_n 3, 1) := by decide +kernel
theorem d_Code_releaseUntil_3 : decode b_Code_releaseUntil 3 = .ok (.iload_n 2, 1) := by decide +kernel
theorem d_Code_releaseUntil_4 : decode b_Code_releaseUntil 4 = .ok (.if_icmp .ge 41, 3) := by decide +kernel
theorem d_Code_releaseUntil_7 : decode b_Code_releaseUntil 7 = .ok (.aload_n 0, 1) := by decide +kernel
theorem d_Code_releaseUntil_8 : decode b_Code_releaseUntil 8 = .ok (.getfield 39, 3) := by decide +kernel
theorem d_Code_releaseUntil_11 : decode b_Code_releaseUntil 11 = .ok (.iload_n 3, 1) := by decide +kernel
theorem d_Code_releaseUntil_12 : decode b_Code_releaseUntil 12 = .ok (.iaload, 1) := by decide +kernel
theorem d_Code_releaseUntil_13 : decode b_Code_releaseUntil 13 = .ok (.iconst (-1), 1) := by decide +kernel
theorem d_Code_releaseUntil_14 : decode b_Code_releaseUntil 14 = .ok (.if_icmp .eq 25, 3) := by decide +kernel
theorem d_Code_releaseUntil_17 : decode b_Code_releaseUntil 17 = .ok (.aload_n 0, 1) := by decide +kernel
theorem d_Code_releaseUntil_18 : decode b_Code_releaseUntil 18 = .ok (.getfield 30, 3) := by decide +kernel
theorem d_Code_releaseUntil_21 : decode b_Code_releaseUntil 21 = .ok (.aload_n 0, 1) := by decide +kernel
theorem d_Code_releaseUntil_22 : decode b_Code_releaseUntil 22 = .ok (.getfield 39, 3) := by decide +kernel
theorem d_Code_releaseUntil_25 : decode b_Code_releaseUntil 25 = .ok (.iload_n 3, 1) := by decide +kernel
theorem d_Code_releaseUntil_26 : decode b_Code_releaseUntil 26 = .ok (.iaload, 1) := by decide +kernel
theorem d_Code_releaseUntil_27 : decode b_Code_releaseUntil 27 = .ok (.iaload, 1) := by decide +kernel
theorem d_Code_releaseUntil_28 : decode b_Code_releaseUntil 28 = .ok (.iload_n 1, 1) := by decide +kernel
theorem d_Code_releaseUntil_29 : decode b_Code_releaseUntil 29 = .ok (.if_icmp .gt 10, 3) := by decide +kernel
theorem d_Code_releaseUntil_32 : decode b_Code_releaseUntil 32 = .ok (.aload_n 0, 1) := by decide +kernel
theorem d_Code_releaseUntil_33 : decode b_Code_releaseUntil 33 = .ok (.getfield 39, 3) := by decide +kernel
theorem d_Code_releaseUntil_36 : decode b_Code_releaseUntil 36 = .ok (.iload_n 3, 1) := by decide +kernel
theorem d_Code_releaseUntil_37 : decode b_Code_releaseUntil 37 = .ok (.iconst (-1), 1) := by decide +kernel
theorem d_Code_releaseUntil_38 : decode b_Code_releaseUntil 38 = .ok (.iastore, 1) := by decide +kernel
theorem d_Code_releaseUntil_39 : decode b_Code_releaseUntil 39 = .ok (.iinc 3 1, 3) := by decide +kernel
theorem d_Code_releaseUntil_42 : decode b_Code_releaseUntil 42 = .ok (.goto (-40), 3) := by decide +kernel
theorem d_Code_releaseUntil_45 : decode b_Code_releaseUntil 45 = .ok (.return_, 1) := by decide +kernel
theorem d_Code_leastFree_0 : decode b_Code_leastFree 0 = .ok (.iconst 0, 1) := by decide +kernel
theorem d_Code_leastFree_1 : decode b_Code_leastFree 1 = .ok (.istore_n 2, 1) := by decide +kernel
theorem d_Code_leastFree_2 : decode b_Code_leastFree 2 = .ok (.iload_n 2, 1) := by decide +kernel
theorem d_Code_leastFree_3 : decode b_Code_leastFree 3 = .ok (.iload_n 1, 1) := by decide +kernel
theorem d_Code_leastFree_4 : decode b_Code_leastFree 4 = .ok (.if_icmp .ge 21, 3) := by decide +kernel
theorem d_Code_leastFree_7 : decode b_Code_leastFree 7 = .ok (.aload_n 0, 1) := by decide +kernel
theorem d_Code_leastFree_8 : decode b_Code_leastFree 8 = .ok (.getfield 39, 3) := by decide +kernel
theorem d_Code_leastFree_11 : decode b_Code_leastFree 11 = .ok (.iload_n 2, 1) := by decide +kernel
theorem d_Code_leastFree_12 : decode b_Code_leastFree 12 = .ok (.iaload, 1) := by decide +kernel
theorem d_Code_leastFree_13 : decode b_Code_leastFree 13 = .ok (.iconst (-1), 1) := by decide +kernel
theorem d_Code_leastFree_14 : decode b_Code_leastFree 14 = .ok (.if_icmp .ne 5, 3) := by decide +kernel
theorem d_Code_leastFree_17 : decode b_Code_leastFree 17 = .ok (.iload_n 2, 1) := by decide +kernel
theorem d_Code_leastFree_18 : decode b_Code_leastFree 18 = .ok (.ireturn, 1) := by decide +kernel
theorem d_Code_leastFree_19 : decode b_Code_leastFree 19 = .ok (.iinc 2 1, 3) := by decide +kernel
theorem d_Code_leastFree_22 : decode b_Code_leastFree 22 = .ok (.goto (-20), 3) := by decide +kernel
theorem d_Code_leastFree_25 : decode b_Code_leastFree 25 = .ok (.iconst (-1), 1) := by decide +kernel
theorem d_Code_leastFree_26 : decode b_Code_leastFree 26 = .ok (.ireturn, 1) := by decide +kernel
theorem d_Code_spillFor_0 : decode b_Code_spillFor 0 = .ok (.iload_n 1, 1) := by decide +kernel
theorem d_Code_spillFor_1 : decode b_Code_spillFor 1 = .ok (.istore_n 3, 1) := by decide +kernel
theorem d_Code_spillFor_2 : decode b_Code_spillFor 2 = .ok (.iconst 0, 1) := by decide +kernel
theorem d_Code_spillFor_3 : decode b_Code_spillFor 3 = .ok (.istore 4, 2) := by decide +kernel
theorem d_Code_spillFor_5 : decode b_Code_spillFor 5 = .ok (.iload 4, 2) := by decide +kernel
theorem d_Code_spillFor_7 : decode b_Code_spillFor 7 = .ok (.iload_n 2, 1) := by decide +kernel
theorem d_Code_spillFor_8 : decode b_Code_spillFor 8 = .ok (.if_icmp .ge 32, 3) := by decide +kernel
theorem d_Code_spillFor_11 : decode b_Code_spillFor 11 = .ok (.aload_n 0, 1) := by decide +kernel
theorem d_Code_spillFor_12 : decode b_Code_spillFor 12 = .ok (.aload_n 0, 1) := by decide +kernel
theorem d_Code_spillFor_13 : decode b_Code_spillFor 13 = .ok (.getfield 39, 3) := by decide +kernel
theorem d_Code_spillFor_16 : decode b_Code_spillFor 16 = .ok (.iload 4, 2) := by decide +kernel
theorem d_Code_spillFor_18 : decode b_Code_spillFor 18 = .ok (.iaload, 1) := by decide +kernel
theorem d_Code_spillFor_19 : decode b_Code_spillFor 19 = .ok (.iload_n 3, 1) := by decide +kernel
theorem d_Code_spillFor_20 : decode b_Code_spillFor 20 = .ok (.invokevirtual 123, 3) := by decide +kernel
theorem d_Code_spillFor_23 : decode b_Code_spillFor 23 = .ok (.ifCond .eq 11, 3) := by decide +kernel
theorem d_Code_spillFor_26 : decode b_Code_spillFor 26 = .ok (.aload_n 0, 1) := by decide +kernel
theorem d_Code_spillFor_27 : decode b_Code_spillFor 27 = .ok (.getfield 39, 3) := by decide +kernel
theorem d_Code_spillFor_30 : decode b_Code_spillFor 30 = .ok (.iload 4, 2) := by decide +kernel
theorem d_Code_spillFor_32 : decode b_Code_spillFor 32 = .ok (.iaload, 1) := by decide +kernel
theorem d_Code_spillFor_33 : decode b_Code_spillFor 33 = .ok (.istore_n 3, 1) := by decide +kernel
theorem d_Code_spillFor_34 : decode b_Code_spillFor 34 = .ok (.iinc 4 1, 3) := by decide +kernel
theorem d_Code_spillFor_37 : decode b_Code_spillFor 37 = .ok (.goto (-32), 3) := by decide +kernel
theorem d_Code_spillFor_40 : decode b_Code_spillFor 40 = .ok (.iload_n 3, 1) := by decide +kernel
theorem d_Code_spillFor_41 : decode b_Code_spillFor 41 = .ok (.iload_n 1, 1) := by decide +kernel
theorem d_Code_spillFor_42 : decode b_Code_spillFor 42 = .ok (.if_icmp .eq 27, 3) := by decide +kernel
theorem d_Code_spillFor_45 : decode b_Code_spillFor 45 = .ok (.aload_n 0, 1) := by decide +kernel
theorem d_Code_spillFor_46 : decode b_Code_spillFor 46 = .ok (.getfield 33, 3) := by decide +kernel
theorem d_Code_spillFor_49 : decode b_Code_spillFor 49 = .ok (.iload_n 1, 1) := by decide +kernel
theorem d_Code_spillFor_50 : decode b_Code_spillFor 50 = .ok (.aload_n 0, 1) := by decide +kernel
theorem d_Code_spillFor_51 : decode b_Code_spillFor 51 = .ok (.getfield 33, 3) := by decide +kernel
theorem d_Code_spillFor_54 : decode b_Code_spillFor 54 = .ok (.iload_n 3, 1) := by decide +kernel
theorem d_Code_spillFor_55 : decode b_Code_spillFor 55 = .ok (.iaload, 1) := by decide +kernel
theorem d_Code_spillFor_56 : decode b_Code_spillFor 56 = .ok (.iastore, 1) := by decide +kernel
theorem d_Code_spillFor_57 : decode b_Code_spillFor 57 = .ok (.aload_n 0, 1) := by decide +kernel
theorem d_Code_spillFor_58 : decode b_Code_spillFor 58 = .ok (.getfield 39, 3) := by decide +kernel
theorem d_Code_spillFor_61 : decode b_Code_spillFor 61 = .ok (.aload_n 0, 1) := by decide +kernel
theorem d_Code_spillFor_62 : decode b_Code_spillFor 62 = .ok (.getfield 33, 3) := by decide +kernel
theorem d_Code_spillFor_65 : decode b_Code_spillFor 65 = .ok (.iload_n 1, 1) := by decide +kernel
theorem d_Code_spillFor_66 : decode b_Code_spillFor 66 = .ok (.iaload, 1) := by decide +kernel
theorem d_Code_spillFor_67 : decode b_Code_spillFor 67 = .ok (.iload_n 1, 1) := by decide +kernel
theorem d_Code_spillFor_68 : decode b_Code_spillFor 68 = .ok (.iastore, 1) := by decide +kernel
theorem d_Code_spillFor_69 : decode b_Code_spillFor 69 = .ok (.aload_n 0, 1) := by decide +kernel
theorem d_Code_spillFor_70 : decode b_Code_spillFor 70 = .ok (.getfield 33, 3) := by decide +kernel
theorem d_Code_spillFor_73 : decode b_Code_spillFor 73 = .ok (.iload_n 3, 1) := by decide +kernel
theorem d_Code_spillFor_74 : decode b_Code_spillFor 74 = .ok (.iload_n 2, 1) := by decide +kernel
theorem d_Code_spillFor_75 : decode b_Code_spillFor 75 = .ok (.aload_n 0, 1) := by decide +kernel
theorem d_Code_spillFor_76 : decode b_Code_spillFor 76 = .ok (.getfield 103, 3) := by decide +kernel
theorem d_Code_spillFor_79 : decode b_Code_spillFor 79 = .ok (.iadd, 1) := by decide +kernel
theorem d_Code_spillFor_80 : decode b_Code_spillFor 80 = .ok (.iastore, 1) := by decide +kernel
theorem d_Code_spillFor_81 : decode b_Code_spillFor 81 = .ok (.aload_n 0, 1) := by decide +kernel
theorem d_Code_spillFor_82 : decode b_Code_spillFor 82 = .ok (.dup, 1) := by decide +kernel
theorem d_Code_spillFor_83 : decode b_Code_spillFor 83 = .ok (.getfield 103, 3) := by decide +kernel
theorem d_Code_spillFor_86 : decode b_Code_spillFor 86 = .ok (.iconst 1, 1) := by decide +kernel
theorem d_Code_spillFor_87 : decode b_Code_spillFor 87 = .ok (.iadd, 1) := by decide +kernel
theorem d_Code_spillFor_88 : decode b_Code_spillFor 88 = .ok (.putfield 103, 3) := by decide +kernel
theorem d_Code_spillFor_91 : decode b_Code_spillFor 91 = .ok (.return_, 1) := by decide +kernel
theorem d_Code_isNeededLonger_0 : decode b_Code_isNeededLonger 0 = .ok (.aload_n 0, 1) := by decide +kernel
theorem d_Code_isNeededLonger_1 : decode b_Code_isNeededLonger 1 = .ok (.getfield 30, 3) := by decide +kernel
theorem d_Code_isNeededLonger_4 : decode b_Code_isNeededLonger 4 = .ok (.iload_n 1, 1) := by decide +kernel
theorem d_Code_isNeededLonger_5 : decode b_Code_isNeededLonger 5 = .ok (.iaload, 1) := by decide +kernel
theorem d_Code_isNeededLonger_6 : decode b_Code_isNeededLonger 6 = .ok (.aload_n 0, 1) := by decide +kernel
theorem d_Code_isNeededLonger_7 : decode b_Code_isNeededLonger 7 = .ok (.getfield 30, 3) := by decide +kernel
theorem d_Code_isNeededLonger_10 : decode b_Code_isNeededLonger 10 = .ok (.iload_n 2, 1) := by decide +kernel
theorem d_Code_isNeededLonger_11 : decode b_Code_isNeededLonger 11 = .ok (.iaload, 1) := by decide +kernel
theorem d_Code_isNeededLonger_12 : decode b_Code_isNeededLonger 12 = .ok (.if_icmp .gt 23, 3) := by decide +kernel
theorem d_Code_isNeededLonger_15 : decode b_Code_isNeededLonger 15 = .ok (.aload_n 0, 1) := by decide +kernel
theorem d_Code_isNeededLonger_16 : decode b_Code_isNeededLonger 16 = .ok (.getfield 30, 3) := by decide +kernel
theorem d_Code_isNeededLonger_19 : decode b_Code_isNeededLonger 19 = .ok (.iload_n 1, 1) := by decide +kernel
theorem d_Code_isNeededLonger_20 : decode b_Code_isNeededLonger 20 = .ok (.iaload, 1) := by decide +kernel
theorem d_Code_isNeededLonger_21 : decode b_Code_isNeededLonger 21 = .ok (.aload_n 0, 1) := by decide +kernel
theorem d_Code_isNeededLonger_22 : decode b_Code_isNeededLonger 22 = .ok (.getfield 30, 3) := by decide +kernel
theorem d_Code_isNeededLonger_25 : decode b_Code_isNeededLonger 25 = .ok (.iload_n 2, 1) := by decide +kernel
theorem d_Code_isNeededLonger_26 : decode b_Code_isNeededLonger 26 = .ok (.iaload, 1) := by decide +kernel
theorem d_Code_isNeededLonger_27 : decode b_Code_isNeededLonger 27 = .ok (.if_icmp .ne 12, 3) := by decide +kernel
theorem d_Code_isNeededLonger_30 : decode b_Code_isNeededLonger 30 = .ok (.iload_n 1, 1) := by decide +kernel
theorem d_Code_isNeededLonger_31 : decode b_Code_isNeededLonger 31 = .ok (.iload_n 2, 1) := by decide +kernel
theorem d_Code_isNeededLonger_32 : decode b_Code_isNeededLonger 32 = .ok (.if_icmp .le 7, 3) := by decide +kernel
theorem d_Code_isNeededLonger_35 : decode b_Code_isNeededLonger 35 = .ok (.iconst 1, 1) := by decide +kernel
theorem d_Code_isNeededLonger_36 : decode b_Code_isNeededLonger 36 = .ok (.goto 4, 3) := by decide +kernel
theorem d_Code_isNeededLonger_39 : decode b_Code_isNeededLonger 39 = .ok (.iconst 0, 1) := by decide +kernel
theorem d_Code_isNeededLonger_40 : decode b_Code_isNeededLonger 40 = .ok (.ireturn, 1) := by decide +kernel
theorem d_Code_tell_0 : decode b_Code_tell 0 = .ok (.iload_n 2, 1) := by decide +kernel
theorem d_Code_tell_1 : decode b_Code_tell 1 = .ok (.tableswitch 63 0 3 #[31, 38, 45, 52], 31) := by decide +kernel
theorem d_Code_tell_32 : decode b_Code_tell 32 = .ok (.aload_n 0, 1) := by decide +kernel
theorem d_Code_tell_33 : decode b_Code_tell 33 = .ok (.getfield 9, 3) := by decide +kernel
theorem d_Code_tell_36 : decode b_Code_tell 36 = .ok (.iload_n 1, 1) := by decide +kernel
theorem d_Code_tell_37 : decode b_Code_tell 37 = .ok (.iaload, 1) := by decide +kernel
theorem d_Code_tell_38 : decode b_Code_tell 38 = .ok (.ireturn, 1) := by decide +kernel
theorem d_Code_tell_39 : decode b_Code_tell 39 = .ok (.aload_n 0, 1) := by decide +kernel
theorem d_Code_tell_40 : decode b_Code_tell 40 = .ok (.getfield 15, 3) := by decide +kernel
theorem d_Code_tell_43 : decode b_Code_tell 43 = .ok (.iload_n 1, 1) := by decide +kernel
theorem d_Code_tell_44 : decode b_Code_tell 44 = .ok (.iaload, 1) := by decide +kernel
theorem d_Code_tell_45 : decode b_Code_tell 45 = .ok (.ireturn, 1) := by decide +kernel
theorem d_Code_tell_46 : decode b_Code_tell 46 = .ok (.aload_n 0, 1) := by decide +kernel
theorem d_Code_tell_47 : decode b_Code_tell 47 = .ok (.getfield 33, 3) := by decide +kernel
theorem d_Code_tell_50 : decode b_Code_tell 50 = .ok (.iload_n 1, 1) := by decide +kernel
theorem d_Code_tell_51 : decode b_Code_tell 51 = .ok (.iaload, 1) := by decide +kernel
theorem d_Code_tell_52 : decode b_Code_tell 52 = .ok (.ireturn, 1) := by decide +kernel
theorem d_Code_tell_53 : decode b_Code_tell 53 = .ok (.aload_n 0, 1) := by decide +kernel
theorem d_Code_tell_54 : decode b_Code_tell 54 = .ok (.aload_n 0, 1) := by decide +kernel
theorem d_Code_tell_55 : decode b_Code_tell 55 = .ok (.getfield 24, 3) := by decide +kernel
theorem d_Code_tell_58 : decode b_Code_tell 58 = .ok (.iload_n 1, 1) := by decide +kernel
theorem d_Code_tell_59 : decode b_Code_tell 59 = .ok (.iaload, 1) := by decide +kernel
theorem d_Code_tell_60 : decode b_Code_tell 60 = .ok (.invokevirtual 127, 3) := by decide +kernel
theorem d_Code_tell_63 : decode b_Code_tell 63 = .ok (.ireturn, 1) := by decide +kernel
theorem d_Code_tell_64 : decode b_Code_tell 64 = .ok (.aload_n 0, 1) := by decide +kernel
theorem d_Code_tell_65 : decode b_Code_tell 65 = .ok (.aload_n 0, 1) := by decide +kernel
theorem d_Code_tell_66 : decode b_Code_tell 66 = .ok (.getfield 27, 3) := by decide +kernel
theorem d_Code_tell_69 : decode b_Code_tell 69 = .ok (.iload_n 1, 1) := by decide +kernel
theorem d_Code_tell_70 : decode b_Code_tell 70 = .ok (.iaload, 1) := by decide +kernel
theorem d_Code_tell_71 : decode b_Code_tell 71 = .ok (.invokevirtual 127, 3) := by decide +kernel
theorem d_Code_tell_74 : decode b_Code_tell 74 = .ok (.ireturn, 1) := by decide +kernel
theorem d_Code_placeOf_0 : decode b_Code_placeOf 0 = .ok (.iload_n 1, 1) := by decide +kernel
theorem d_Code_placeOf_1 : decode b_Code_placeOf 1 = .ok (.bipush (-3), 2) := by decide +kernel
theorem d_Code_placeOf_3 : decode b_Code_placeOf 3 = .ok (.if_icmp .ne 8, 3) := by decide +kernel
theorem d_Code_placeOf_6 : decode b_Code_placeOf 6 = .ok (.bipush (-3), 2) := by decide +kernel
theorem d_Code_placeOf_8 : decode b_Code_placeOf 8 = .ok (.goto 9, 3) := by decide +kernel
theorem d_Code_placeOf_11 : decode b_Code_placeOf 11 = .ok (.aload_n 0, 1) := by decide +kernel
theorem d_Code_placeOf_12 : decode b_Code_placeOf 12 = .ok (.getfield 33, 3) := by decide +kernel
theorem d_Code_placeOf_15 : decode b_Code_placeOf 15 = .ok (.iload_n 1, 1) := by decide +kernel
theorem d_Code_placeOf_16 : decode b_Code_placeOf 16 = .ok (.iaload, 1) := by decide +kernel
theorem d_Code_placeOf_17 : decode b_Code_placeOf 17 = .ok (.ireturn, 1) := by decide +kernel
theorem d_Code_execute_0 : decode b_Code_execute 0 = .ok (.aload_n 0, 1) := by decide +kernel
theorem d_Code_execute_1 : decode b_Code_execute 1 = .ok (.getfield 51, 3) := by decide +kernel
theorem d_Code_execute_4 : decode b_Code_execute 4 = .ok (.ifCond .ne 5, 3) := by decide +kernel
theorem d_Code_execute_7 : decode b_Code_execute 7 = .ok (.iconst 0, 1) := by decide +kernel
theorem d_Code_execute_8 : decode b_Code_execute 8 = .ok (.ireturn, 1) := by decide +kernel
theorem d_Code_execute_9 : decode b_Code_execute 9 = .ok (.iconst 0, 1) := by decide +kernel
theorem d_Code_execute_10 : decode b_Code_execute 10 = .ok (.istore_n 2, 1) := by decide +kernel
theorem d_Code_execute_11 : decode b_Code_execute 11 = .ok (.iload_n 2, 1) := by decide +kernel
theorem d_Code_execute_12 : decode b_Code_execute 12 = .ok (.aload_n 0, 1) := by decide +kernel
theorem d_Code_execute_13 : decode b_Code_execute 13 = .ok (.getfield 51, 3) := by decide +kernel
theorem d_Code_execute_16 : decode b_Code_execute 16 = .ok (.if_icmp .ge 104, 3) := by decide +kernel
theorem d_Code_execute_19 : decode b_Code_execute 19 = .ok (.aload_n 0, 1) := by decide +kernel
theorem d_Code_execute_20 : decode b_Code_execute 20 = .ok (.getfield 24, 3) := by decide +kernel
theorem d_Code_execute_23 : decode b_Code_execute 23 = .ok (.iload_n 2, 1) := by decide +kernel
theorem d_Code_execute_24 : decode b_Code_execute 24 = .ok (.iaload, 1) := by decide +kernel
theorem d_Code_execute_25 : decode b_Code_execute 25 = .ok (.bipush (-3), 2) := by decide +kernel
theorem d_Code_execute_27 : decode b_Code_execute 27 = .ok (.if_icmp .ne 7, 3) := by decide +kernel
theorem d_Code_execute_30 : decode b_Code_execute 30 = .ok (.iconst 0, 1) := by decide +kernel
theorem d_Code_execute_31 : decode b_Code_execute 31 = .ok (.goto 19, 3) := by decide +kernel
theorem d_Code_execute_34 : decode b_Code_execute 34 = .ok (.aload_n 0, 1) := by decide +kernel
theorem d_Code_execute_35 : decode b_Code_execute 35 = .ok (.getfield 36, 3) := by decide +kernel
theorem d_Code_execute_38 : decode b_Code_execute 38 = .ok (.aload_n 0, 1) := by decide +kernel
theorem d_Code_execute_39 : decode b_Code_execute 39 = .ok (.getfield 33, 3) := by decide +kernel
theorem d_Code_execute_42 : decode b_Code_execute 42 = .ok (.aload_n 0, 1) := by decide +kernel
theorem d_Code_execute_43 : decode b_Code_execute 43 = .ok (.getfield 24, 3) := by decide +kernel
theorem d_Code_execute_46 : decode b_Code_execute 46 = .ok (.iload_n 2, 1) := by decide +kernel
theorem d_Code_execute_47 : decode b_Code_execute 47 = .ok (.iaload, 1) := by decide +kernel
theorem d_Code_execute_48 : decode b_Code_execute 48 = .ok (.iaload, 1) := by decide +kernel
theorem d_Code_execute_49 : decode b_Code_execute 49 = .ok (.iaload, 1) := by decide +kernel
theorem d_Code_execute_50 : decode b_Code_execute 50 = .ok (.istore_n 3, 1) := by decide +kernel
theorem d_Code_execute_51 : decode b_Code_execute 51 = .ok (.aload_n 0, 1) := by decide +kernel
theorem d_Code_execute_52 : decode b_Code_execute 52 = .ok (.getfield 27, 3) := by decide +kernel
theorem d_Code_execute_55 : decode b_Code_execute 55 = .ok (.iload_n 2, 1) := by decide +kernel
theorem d_Code_execute_56 : decode b_Code_execute 56 = .ok (.iaload, 1) := by decide +kernel
theorem d_Code_execute_57 : decode b_Code_execute 57 = .ok (.bipush (-3), 2) := by decide +kernel
theorem d_Code_execute_59 : decode b_Code_execute 59 = .ok (.if_icmp .ne 7, 3) := by decide +kernel
theorem d_Code_execute_62 : decode b_Code_execute 62 = .ok (.iconst 0, 1) := by decide +kernel
theorem d_Code_execute_63 : decode b_Code_execute 63 = .ok (.goto 19, 3) := by decide +kernel
theorem d_Code_execute_66 : decode b_Code_execute 66 = .ok (.aload_n 0, 1) := by decide +kernel
theorem d_Code_execute_67 : decode b_Code_execute 67 = .ok (.getfield 36, 3) := by decide +kernel
theorem d_Code_execute_70 : decode b_Code_execute 70 = .ok (.aload_n 0, 1) := by decide +kernel
theorem d_Code_execute_71 : decode b_Code_execute 71 = .ok (.getfield 33, 3) := by decide +kernel
theorem d_Code_execute_74 : decode b_Code_execute 74 = .ok (.aload_n 0, 1) := by decide +kernel
theorem d_Code_execute_75 : decode b_Code_execute 75 = .ok (.getfield 27, 3) := by decide +kernel
theorem d_Code_execute_78 : decode b_Code_execute 78 = .ok (.iload_n 2, 1) := by decide +kernel
theorem d_Code_execute_79 : decode b_Code_execute 79 = .ok (.iaload, 1) := by decide +kernel
theorem d_Code_execute_80 : decode b_Code_execute 80 = .ok (.iaload, 1) := by decide +kernel
theorem d_Code_execute_81 : decode b_Code_execute 81 = .ok (.iaload, 1) := by decide +kernel
theorem d_Code_execute_82 : decode b_Code_execute 82 = .ok (.istore 4, 2) := by decide +kernel
theorem d_Code_execute_84 : decode b_Code_execute 84 = .ok (.aload_n 0, 1) := by decide +kernel
theorem d_Code_execute_85 : decode b_Code_execute 85 = .ok (.getfield 36, 3) := by decide +kernel
theorem d_Code_execute_88 : decode b_Code_execute 88 = .ok (.aload_n 0, 1) := by decide +kernel
theorem d_Code_execute_89 : decode b_Code_execute 89 = .ok (.getfield 33, 3) := by decide +kernel
theorem d_Code_execute_92 : decode b_Code_execute 92 = .ok (.iload_n 2, 1) := by decide +kernel
theorem d_Code_execute_93 : decode b_Code_execute 93 = .ok (.iaload, 1) := by decide +kernel
theorem d_Code_execute_94 : decode b_Code_execute 94 = .ok (.aload_n 0, 1) := by decide +kernel
theorem d_Code_execute_95 : decode b_Code_execute 95 = .ok (.getfield 18, 3) := by decide +kernel
theorem d_Code_execute_98 : decode b_Code_execute 98 = .ok (.iload_n 2, 1) := by decide +kernel
theorem d_Code_execute_99 : decode b_Code_execute 99 = .ok (.iaload, 1) := by decide +kernel
theorem d_Code_execute_100 : decode b_Code_execute 100 = .ok (.aload_n 0, 1) := by decide +kernel
theorem d_Code_execute_101 : decode b_Code_execute 101 = .ok (.getfield 21, 3) := by decide +kernel
theorem d_Code_execute_104 : decode b_Code_execute 104 = .ok (.iload_n 2, 1) := by decide +kernel
theorem d_Code_execute_105 : decode b_Code_execute 105 = .ok (.iaload, 1) := by decide +kernel
theorem d_Code_execute_106 : decode b_Code_execute 106 = .ok (.iload_n 3, 1) := by decide +kernel
theorem d_Code_execute_107 : decode b_Code_execute 107 = .ok (.iload 4, 2) := by decide +kernel
theorem d_Code_execute_109 : decode b_Code_execute 109 = .ok (.aload_n 1, 1) := by decide +kernel
theorem d_Code_execute_110 : decode b_Code_execute 110 = .ok (.invokestatic 130, 3) := by decide +kernel
theorem d_Code_execute_113 : decode b_Code_execute 113 = .ok (.iastore, 1) := by decide +kernel
theorem d_Code_execute_114 : decode b_Code_execute 114 = .ok (.iinc 2 1, 3) := by decide +kernel
theorem d_Code_execute_117 : decode b_Code_execute 117 = .ok (.goto (-106), 3) := by decide +kernel
theorem d_Code_execute_120 : decode b_Code_execute 120 = .ok (.aload_n 0, 1) := by decide +kernel
theorem d_Code_execute_121 : decode b_Code_execute 121 = .ok (.getfield 36, 3) := by decide +kernel
theorem d_Code_execute_124 : decode b_Code_execute 124 = .ok (.aload_n 0, 1) := by decide +kernel
theorem d_Code_execute_125 : decode b_Code_execute 125 = .ok (.getfield 33, 3) := by decide +kernel
theorem d_Code_execute_128 : decode b_Code_execute 128 = .ok (.aload_n 0, 1) := by decide +kernel
theorem d_Code_execute_129 : decode b_Code_execute 129 = .ok (.getfield 51, 3) := by decide +kernel
theorem d_Code_execute_132 : decode b_Code_execute 132 = .ok (.iconst 1, 1) := by decide +kernel
theorem d_Code_execute_133 : decode b_Code_execute 133 = .ok (.isub, 1) := by decide +kernel
theorem d_Code_execute_134 : decode b_Code_execute 134 = .ok (.iaload, 1) := by decide +kernel
theorem d_Code_execute_135 : decode b_Code_execute 135 = .ok (.iaload, 1) := by decide +kernel
theorem d_Code_execute_136 : decode b_Code_execute 136 = .ok (.ireturn, 1) := by decide +kernel
theorem d_Pile_evaluateTop_0 : decode b_Pile_evaluateTop 0 = .ok (.aload_n 0, 1) := by decide +kernel
theorem d_Pile_evaluateTop_1 : decode b_Pile_evaluateTop 1 = .ok (.getfield 38, 3) := by decide +kernel
theorem d_Pile_evaluateTop_4 : decode b_Pile_evaluateTop 4 = .ok (.ifCond .ne 5, 3) := by decide +kernel
theorem d_Pile_evaluateTop_7 : decode b_Pile_evaluateTop 7 = .ok (.iconst 0, 1) := by decide +kernel
theorem d_Pile_evaluateTop_8 : decode b_Pile_evaluateTop 8 = .ok (.ireturn, 1) := by decide +kernel
theorem d_Pile_evaluateTop_9 : decode b_Pile_evaluateTop 9 = .ok (.aload_n 0, 1) := by decide +kernel
theorem d_Pile_evaluateTop_10 : decode b_Pile_evaluateTop 10 = .ok (.invokevirtual 75, 3) := by decide +kernel
theorem d_Pile_evaluateTop_13 : decode b_Pile_evaluateTop 13 = .ok (.istore_n 2, 1) := by decide +kernel
theorem d_Pile_evaluateTop_14 : decode b_Pile_evaluateTop 14 = .ok (.iload_n 2, 1) := by decide +kernel
theorem d_Pile_evaluateTop_15 : decode b_Pile_evaluateTop 15 = .ok (.aload_n 0, 1) := by decide +kernel
theorem d_Pile_evaluateTop_16 : decode b_Pile_evaluateTop 16 = .ok (.getfield 42, 3) := by decide +kernel
theorem d_Pile_evaluateTop_19 : decode b_Pile_evaluateTop 19 = .ok (.if_icmp .ge 91, 3) := by decide +kernel
theorem d_Pile_evaluateTop_22 : decode b_Pile_evaluateTop 22 = .ok (.getstatic 49, 3) := by decide +kernel
theorem d_Pile_evaluateTop_25 : decode b_Pile_evaluateTop 25 = .ok (.aload_n 0, 1) := by decide +kernel
theorem d_Pile_evaluateTop_26 : decode b_Pile_evaluateTop 26 = .ok (.getfield 9, 3) := by decide +kernel
theorem d_Pile_evaluateTop_29 : decode b_Pile_evaluateTop 29 = .ok (.iload_n 2, 1) := by decide +kernel
theorem d_Pile_evaluateTop_30 : decode b_Pile_evaluateTop 30 = .ok (.iaload, 1) := by decide +kernel
theorem d_Pile_evaluateTop_31 : decode b_Pile_evaluateTop 31 = .ok (.iaload, 1) := by decide +kernel
theorem d_Pile_evaluateTop_32 : decode b_Pile_evaluateTop 32 = .ok (.istore_n 3, 1) := by decide +kernel
theorem d_Pile_evaluateTop_33 : decode b_Pile_evaluateTop 33 = .ok (.iload_n 3, 1) := by decide +kernel
theorem d_Pile_evaluateTop_34 : decode b_Pile_evaluateTop 34 = .ok (.ifCond .ne 7, 3) := by decide +kernel
theorem d_Pile_evaluateTop_37 : decode b_Pile_evaluateTop 37 = .ok (.iconst 0, 1) := by decide +kernel
theorem d_Pile_evaluateTop_38 : decode b_Pile_evaluateTop 38 = .ok (.goto 19, 3) := by decide +kernel
theorem d_Pile_evaluateTop_41 : decode b_Pile_evaluateTop 41 = .ok (.aload_n 0, 1) := by decide +kernel
theorem d_Pile_evaluateTop_42 : decode b_Pile_evaluateTop 42 = .ok (.getfield 24, 3) := by decide +kernel
theorem d_Pile_evaluateTop_45 : decode b_Pile_evaluateTop 45 = .ok (.aload_n 0, 1) := by decide +kernel
theorem d_Pile_evaluateTop_46 : decode b_Pile_evaluateTop 46 = .ok (.iload_n 2, 1) := by decide +kernel
theorem d_Pile_evaluateTop_47 : decode b_Pile_evaluateTop 47 = .ok (.aload_n 0, 1) := by decide +kernel
theorem d_Pile_evaluateTop_48 : decode b_Pile_evaluateTop 48 = .ok (.getfield 9, 3) := by decide +kernel
theorem d_Pile_evaluateTop_51 : decode b_Pile_evaluateTop 51 = .ok (.iload_n 2, 1) := by decide +kernel
theorem d_Pile_evaluateTop_52 : decode b_Pile_evaluateTop 52 = .ok (.iaload, 1) := by decide +kernel
theorem d_Pile_evaluateTop_53 : decode b_Pile_evaluateTop 53 = .ok (.invokevirtual 52, 3) := by decide +kernel
theorem d_Pile_evaluateTop_56 : decode b_Pile_evaluateTop 56 = .ok (.iaload, 1) := by decide +kernel
theorem d_Pile_evaluateTop_57 : decode b_Pile_evaluateTop 57 = .ok (.istore 4, 2) := by decide +kernel
theorem d_Pile_evaluateTop_59 : decode b_Pile_evaluateTop 59 = .ok (.iload_n 3, 1) := by decide +kernel
theorem d_Pile_evaluateTop_60 : decode b_Pile_evaluateTop 60 = .ok (.iconst 2, 1) := by decide +kernel
theorem d_Pile_evaluateTop_61 : decode b_Pile_evaluateTop 61 = .ok (.if_icmp .ne 14, 3) := by decide +kernel
theorem d_Pile_evaluateTop_64 : decode b_Pile_evaluateTop 64 = .ok (.aload_n 0, 1) := by decide +kernel
theorem d_Pile_evaluateTop_65 : decode b_Pile_evaluateTop 65 = .ok (.getfield 24, 3) := by decide +kernel
theorem d_Pile_evaluateTop_68 : decode b_Pile_evaluateTop 68 = .ok (.iload_n 2, 1) := by decide +kernel
theorem d_Pile_evaluateTop_69 : decode b_Pile_evaluateTop 69 = .ok (.iconst 1, 1) := by decide +kernel
theorem d_Pile_evaluateTop_70 : decode b_Pile_evaluateTop 70 = .ok (.isub, 1) := by decide +kernel
theorem d_Pile_evaluateTop_71 : decode b_Pile_evaluateTop 71 = .ok (.iaload, 1) := by decide +kernel
theorem d_Pile_evaluateTop_72 : decode b_Pile_evaluateTop 72 = .ok (.goto 4, 3) := by decide +kernel
theorem d_Pile_evaluateTop_75 : decode b_Pile_evaluateTop 75 = .ok (.iconst 0, 1) := by decide +kernel
theorem d_Pile_evaluateTop_76 : decode b_Pile_evaluateTop 76 = .ok (.istore 5, 2) := by decide +kernel
theorem d_Pile_evaluateTop_78 : decode b_Pile_evaluateTop 78 = .ok (.aload_n 0, 1) := by decide +kernel
theorem d_Pile_evaluateTop_79 : decode b_Pile_evaluateTop 79 = .ok (.getfield 24, 3) := by decide +kernel
theorem d_Pile_evaluateTop_82 : decode b_Pile_evaluateTop 82 = .ok (.iload_n 2, 1) := by decide +kernel
theorem d_Pile_evaluateTop_83 : decode b_Pile_evaluateTop 83 = .ok (.aload_n 0, 1) := by decide +kernel
theorem d_Pile_evaluateTop_84 : decode b_Pile_evaluateTop 84 = .ok (.getfield 9, 3) := by decide +kernel
theorem d_Pile_evaluateTop_87 : decode b_Pile_evaluateTop 87 = .ok (.iload_n 2, 1) := by decide +kernel
theorem d_Pile_evaluateTop_88 : decode b_Pile_evaluateTop 88 = .ok (.iaload, 1) := by decide +kernel
theorem d_Pile_evaluateTop_89 : decode b_Pile_evaluateTop 89 = .ok (.aload_n 0, 1) := by decide +kernel
theorem d_Pile_evaluateTop_90 : decode b_Pile_evaluateTop 90 = .ok (.getfield 15, 3) := by decide +kernel
theorem d_Pile_evaluateTop_93 : decode b_Pile_evaluateTop 93 = .ok (.iload_n 2, 1) := by decide +kernel
theorem d_Pile_evaluateTop_94 : decode b_Pile_evaluateTop 94 = .ok (.iaload, 1) := by decide +kernel
theorem d_Pile_evaluateTop_95 : decode b_Pile_evaluateTop 95 = .ok (.iload 4, 2) := by decide +kernel
theorem d_Pile_evaluateTop_97 : decode b_Pile_evaluateTop 97 = .ok (.iload 5, 2) := by decide +kernel
theorem d_Pile_evaluateTop_99 : decode b_Pile_evaluateTop 99 = .ok (.aload_n 1, 1) := by decide +kernel
theorem d_Pile_evaluateTop_100 : decode b_Pile_evaluateTop 100 = .ok (.invokestatic 78, 3) := by decide +kernel
theorem d_Pile_evaluateTop_103 : decode b_Pile_evaluateTop 103 = .ok (.iastore, 1) := by decide +kernel
theorem d_Pile_evaluateTop_104 : decode b_Pile_evaluateTop 104 = .ok (.iinc 2 1, 3) := by decide +kernel
theorem d_Pile_evaluateTop_107 : decode b_Pile_evaluateTop 107 = .ok (.goto (-93), 3) := by decide +kernel
theorem d_Pile_evaluateTop_110 : decode b_Pile_evaluateTop 110 = .ok (.aload_n 0, 1) := by decide +kernel
theorem d_Pile_evaluateTop_111 : decode b_Pile_evaluateTop 111 = .ok (.getfield 24, 3) := by decide +kernel
theorem d_Pile_evaluateTop_114 : decode b_Pile_evaluateTop 114 = .ok (.aload_n 0, 1) := by decide +kernel
theorem d_Pile_evaluateTop_115 : decode b_Pile_evaluateTop 115 = .ok (.getfield 42, 3) := by decide +kernel
theorem d_Pile_evaluateTop_118 : decode b_Pile_evaluateTop 118 = .ok (.iconst 1, 1) := by decide +kernel
theorem d_Pile_evaluateTop_119 : decode b_Pile_evaluateTop 119 = .ok (.isub, 1) := by decide +kernel
theorem d_Pile_evaluateTop_120 : decode b_Pile_evaluateTop 120 = .ok (.iaload, 1) := by decide +kernel
theorem d_Pile_evaluateTop_121 : decode b_Pile_evaluateTop 121 = .ok (.ireturn, 1) := by decide +kernel
end
section
/-! What stands at each place of the code. -/
theorem d_Model_init_0 : decode b_Model_init 0 = .ok (.aload_n 0, 1) := by decide +kernel
theorem d_Model_init_1 : decode b_Model_init 1 = .ok (.invokespecial 1, 3) := by decide +kernel
theorem d_Model_init_4 : decode b_Model_init 4 = .ok (.aload_n 0, 1) := by decide +kernel
theorem d_Model_init_5 : decode b_Model_init 5 = .ok (.bipush 24, 2) := by decide +kernel
theorem d_Model_init_7 : decode b_Model_init 7 = .ok (.newarray .int, 2) := by decide +kernel
theorem d_Model_init_9 : decode b_Model_init 9 = .ok (.putfield 7, 3) := by decide +kernel
theorem d_Model_init_12 : decode b_Model_init 12 = .ok (.aload_n 0, 1) := by decide +kernel
theorem d_Model_init_13 : decode b_Model_init 13 = .ok (.bipush 24, 2) := by decide +kernel
theorem d_Model_init_15 : decode b_Model_init 15 = .ok (.newarray .int, 2) := by decide +kernel
theorem d_Model_init_17 : decode b_Model_init 17 = .ok (.putfield 13, 3) := by decide +kernel
theorem d_Model_init_20 : decode b_Model_init 20 = .ok (.aload_n 0, 1) := by decide +kernel
theorem d_Model_init_21 : decode b_Model_init 21 = .ok (.bipush 24, 2) := by decide +kernel
theorem d_Model_init_23 : decode b_Model_init 23 = .ok (.newarray .int, 2) := by decide +kernel
theorem d_Model_init_25 : decode b_Model_init 25 = .ok (.putfield 16, 3) := by decide +kernel
theorem d_Model_init_28 : decode b_Model_init 28 = .ok (.aload_n 0, 1) := by decide +kernel
theorem d_Model_init_29 : decode b_Model_init 29 = .ok (.bipush 24, 2) := by decide +kernel
theorem d_Model_init_31 : decode b_Model_init 31 = .ok (.newarray .int, 2) := by decide +kernel
theorem d_Model_init_33 : decode b_Model_init 33 = .ok (.putfield 19, 3) := by decide +kernel
theorem d_Model_init_36 : decode b_Model_init 36 = .ok (.aload_n 0, 1) := by decide +kernel
theorem d_Model_init_37 : decode b_Model_init 37 = .ok (.bipush 24, 2) := by decide +kernel
theorem d_Model_init_39 : decode b_Model_init 39 = .ok (.newarray .int, 2) := by decide +kernel
theorem d_Model_init_41 : decode b_Model_init 41 = .ok (.putfield 22, 3) := by decide +kernel
theorem d_Model_init_44 : decode b_Model_init 44 = .ok (.aload_n 0, 1) := by decide +kernel
theorem d_Model_init_45 : decode b_Model_init 45 = .ok (.bipush 40, 2) := by decide +kernel
theorem d_Model_init_47 : decode b_Model_init 47 = .ok (.newarray .int, 2) := by decide +kernel
theorem d_Model_init_49 : decode b_Model_init 49 = .ok (.putfield 25, 3) := by decide +kernel
theorem d_Model_init_52 : decode b_Model_init 52 = .ok (.aload_n 0, 1) := by decide +kernel
theorem d_Model_init_53 : decode b_Model_init 53 = .ok (.bipush 40, 2) := by decide +kernel
theorem d_Model_init_55 : decode b_Model_init 55 = .ok (.newarray .int, 2) := by decide +kernel
theorem d_Model_init_57 : decode b_Model_init 57 = .ok (.putfield 28, 3) := by decide +kernel
theorem d_Model_init_60 : decode b_Model_init 60 = .ok (.aload_n 0, 1) := by decide +kernel
theorem d_Model_init_61 : decode b_Model_init 61 = .ok (.bipush 40, 2) := by decide +kernel
theorem d_Model_init_63 : decode b_Model_init 63 = .ok (.newarray .int, 2) := by decide +kernel
theorem d_Model_init_65 : decode b_Model_init 65 = .ok (.putfield 31, 3) := by decide +kernel
theorem d_Model_init_68 : decode b_Model_init 68 = .ok (.aload_n 0, 1) := by decide +kernel
theorem d_Model_init_69 : decode b_Model_init 69 = .ok (.bipush 40, 2) := by decide +kernel
theorem d_Model_init_71 : decode b_Model_init 71 = .ok (.newarray .int, 2) := by decide +kernel
theorem d_Model_init_73 : decode b_Model_init 73 = .ok (.putfield 34, 3) := by decide +kernel
theorem d_Model_init_76 : decode b_Model_init 76 = .ok (.aload_n 0, 1) := by decide +kernel
theorem d_Model_init_77 : decode b_Model_init 77 = .ok (.bipush 40, 2) := by decide +kernel
theorem d_Model_init_79 : decode b_Model_init 79 = .ok (.newarray .int, 2) := by decide +kernel
theorem d_Model_init_81 : decode b_Model_init 81 = .ok (.putfield 37, 3) := by decide +kernel
theorem d_Model_init_84 : decode b_Model_init 84 = .ok (.aload_n 0, 1) := by decide +kernel
theorem d_Model_init_85 : decode b_Model_init 85 = .ok (.sipush 160, 3) := by decide +kernel
theorem d_Model_init_88 : decode b_Model_init 88 = .ok (.newarray .long, 2) := by decide +kernel
theorem d_Model_init_90 : decode b_Model_init 90 = .ok (.putfield 40, 3) := by decide +kernel
theorem d_Model_init_93 : decode b_Model_init 93 = .ok (.aload_n 0, 1) := by decide +kernel
theorem d_Model_init_94 : decode b_Model_init 94 = .ok (.sipush 160, 3) := by decide +kernel
theorem d_Model_init_97 : decode b_Model_init 97 = .ok (.newarray .int, 2) := by decide +kernel
theorem d_Model_init_99 : decode b_Model_init 99 = .ok (.putfield 44, 3) := by decide +kernel
theorem d_Model_init_102 : decode b_Model_init 102 = .ok (.aload_n 0, 1) := by decide +kernel
theorem d_Model_init_103 : decode b_Model_init 103 = .ok (.iconst 4, 1) := by decide +kernel
theorem d_Model_init_104 : decode b_Model_init 104 = .ok (.newarray .long, 2) := by decide +kernel
theorem d_Model_init_106 : decode b_Model_init 106 = .ok (.putfield 47, 3) := by decide +kernel
theorem d_Model_init_109 : decode b_Model_init 109 = .ok (.aload_n 0, 1) := by decide +kernel
theorem d_Model_init_110 : decode b_Model_init 110 = .ok (.iconst 4, 1) := by decide +kernel
theorem d_Model_init_111 : decode b_Model_init 111 = .ok (.newarray .long, 2) := by decide +kernel
theorem d_Model_init_113 : decode b_Model_init 113 = .ok (.putfield 50, 3) := by decide +kernel
theorem d_Model_init_116 : decode b_Model_init 116 = .ok (.aload_n 0, 1) := by decide +kernel
theorem d_Model_init_117 : decode b_Model_init 117 = .ok (.iconst 4, 1) := by decide +kernel
theorem d_Model_init_118 : decode b_Model_init 118 = .ok (.newarray .long, 2) := by decide +kernel
theorem d_Model_init_120 : decode b_Model_init 120 = .ok (.putfield 53, 3) := by decide +kernel
theorem d_Model_init_123 : decode b_Model_init 123 = .ok (.aload_n 0, 1) := by decide +kernel
theorem d_Model_init_124 : decode b_Model_init 124 = .ok (.iconst 4, 1) := by decide +kernel
theorem d_Model_init_125 : decode b_Model_init 125 = .ok (.newarray .int, 2) := by decide +kernel
theorem d_Model_init_127 : decode b_Model_init 127 = .ok (.putfield 56, 3) := by decide +kernel
theorem d_Model_init_130 : decode b_Model_init 130 = .ok (.aload_n 0, 1) := by decide +kernel
theorem d_Model_init_131 : decode b_Model_init 131 = .ok (.sipush 164, 3) := by decide +kernel
theorem d_Model_init_134 : decode b_Model_init 134 = .ok (.newarray .long, 2) := by decide +kernel
theorem d_Model_init_136 : decode b_Model_init 136 = .ok (.putfield 59, 3) := by decide +kernel
theorem d_Model_init_139 : decode b_Model_init 139 = .ok (.aload_n 0, 1) := by decide +kernel
theorem d_Model_init_140 : decode b_Model_init 140 = .ok (.sipush 164, 3) := by decide +kernel
theorem d_Model_init_143 : decode b_Model_init 143 = .ok (.newarray .int, 2) := by decide +kernel
theorem d_Model_init_145 : decode b_Model_init 145 = .ok (.putfield 62, 3) := by decide +kernel
theorem d_Model_init_148 : decode b_Model_init 148 = .ok (.aload_n 0, 1) := by decide +kernel
theorem d_Model_init_149 : decode b_Model_init 149 = .ok (.iconst 3, 1) := by decide +kernel
theorem d_Model_init_150 : decode b_Model_init 150 = .ok (.putfield 65, 3) := by decide +kernel
theorem d_Model_init_153 : decode b_Model_init 153 = .ok (.aload_n 0, 1) := by decide +kernel
theorem d_Model_init_154 : decode b_Model_init 154 = .ok (.sipush 160, 3) := by decide +kernel
theorem d_Model_init_157 : decode b_Model_init 157 = .ok (.newarray .int, 2) := by decide +kernel
theorem d_Model_init_159 : decode b_Model_init 159 = .ok (.putfield 69, 3) := by decide +kernel
theorem d_Model_init_162 : decode b_Model_init 162 = .ok (.aload_n 0, 1) := by decide +kernel
theorem d_Model_init_163 : decode b_Model_init 163 = .ok (.sipush 160, 3) := by decide +kernel
theorem d_Model_init_166 : decode b_Model_init 166 = .ok (.newarray .int, 2) := by decide +kernel
theorem d_Model_init_168 : decode b_Model_init 168 = .ok (.putfield 72, 3) := by decide +kernel
theorem d_Model_init_171 : decode b_Model_init 171 = .ok (.aload_n 0, 1) := by decide +kernel
theorem d_Model_init_172 : decode b_Model_init 172 = .ok (.sipush 160, 3) := by decide +kernel
theorem d_Model_init_175 : decode b_Model_init 175 = .ok (.newarray .int, 2) := by decide +kernel
theorem d_Model_init_177 : decode b_Model_init 177 = .ok (.putfield 75, 3) := by decide +kernel
theorem d_Model_init_180 : decode b_Model_init 180 = .ok (.aload_n 0, 1) := by decide +kernel
theorem d_Model_init_181 : decode b_Model_init 181 = .ok (.sipush 160, 3) := by decide +kernel
theorem d_Model_init_184 : decode b_Model_init 184 = .ok (.newarray .int, 2) := by decide +kernel
theorem d_Model_init_186 : decode b_Model_init 186 = .ok (.putfield 78, 3) := by decide +kernel
theorem d_Model_init_189 : decode b_Model_init 189 = .ok (.aload_n 0, 1) := by decide +kernel
theorem d_Model_init_190 : decode b_Model_init 190 = .ok (.sipush 160, 3) := by decide +kernel
theorem d_Model_init_193 : decode b_Model_init 193 = .ok (.newarray .int, 2) := by decide +kernel
theorem d_Model_init_195 : decode b_Model_init 195 = .ok (.putfield 81, 3) := by decide +kernel
theorem d_Model_init_198 : decode b_Model_init 198 = .ok (.aload_n 0, 1) := by decide +kernel
theorem d_Model_init_199 : decode b_Model_init 199 = .ok (.sipush 160, 3) := by decide +kernel
theorem d_Model_init_202 : decode b_Model_init 202 = .ok (.newarray .int, 2) := by decide +kernel
theorem d_Model_init_204 : decode b_Model_init 204 = .ok (.putfield 84, 3) := by decide +kernel
theorem d_Model_init_207 : decode b_Model_init 207 = .ok (.aload_n 0, 1) := by decide +kernel
theorem d_Model_init_208 : decode b_Model_init 208 = .ok (.sipush 160, 3) := by decide +kernel
theorem d_Model_init_211 : decode b_Model_init 211 = .ok (.newarray .int, 2) := by decide +kernel
theorem d_Model_init_213 : decode b_Model_init 213 = .ok (.putfield 87, 3) := by decide +kernel
theorem d_Model_init_216 : decode b_Model_init 216 = .ok (.aload_n 0, 1) := by decide +kernel
theorem d_Model_init_217 : decode b_Model_init 217 = .ok (.sipush 160, 3) := by decide +kernel
theorem d_Model_init_220 : decode b_Model_init 220 = .ok (.newarray .int, 2) := by decide +kernel
theorem d_Model_init_222 : decode b_Model_init 222 = .ok (.putfield 90, 3) := by decide +kernel
theorem d_Model_init_225 : decode b_Model_init 225 = .ok (.aload_n 0, 1) := by decide +kernel
theorem d_Model_init_226 : decode b_Model_init 226 = .ok (.sipush 160, 3) := by decide +kernel
theorem d_Model_init_229 : decode b_Model_init 229 = .ok (.newarray .int, 2) := by decide +kernel
theorem d_Model_init_231 : decode b_Model_init 231 = .ok (.putfield 93, 3) := by decide +kernel
theorem d_Model_init_234 : decode b_Model_init 234 = .ok (.aload_n 0, 1) := by decide +kernel
theorem d_Model_init_235 : decode b_Model_init 235 = .ok (.bipush 40, 2) := by decide +kernel
theorem d_Model_init_237 : decode b_Model_init 237 = .ok (.newarray .int, 2) := by decide +kernel
theorem d_Model_init_239 : decode b_Model_init 239 = .ok (.putfield 96, 3) := by decide +kernel
theorem d_Model_init_242 : decode b_Model_init 242 = .ok (.aload_n 0, 1) := by decide +kernel
theorem d_Model_init_243 : decode b_Model_init 243 = .ok (.bipush 40, 2) := by decide +kernel
theorem d_Model_init_245 : decode b_Model_init 245 = .ok (.newarray .int, 2) := by decide +kernel
theorem d_Model_init_247 : decode b_Model_init 247 = .ok (.putfield 99, 3) := by decide +kernel
theorem d_Model_init_250 : decode b_Model_init 250 = .ok (.aload_n 0, 1) := by decide +kernel
theorem d_Model_init_251 : decode b_Model_init 251 = .ok (.bipush 8, 2) := by decide +kernel
theorem d_Model_init_253 : decode b_Model_init 253 = .ok (.newarray .int, 2) := by decide +kernel
theorem d_Model_init_255 : decode b_Model_init 255 = .ok (.putfield 102, 3) := by decide +kernel
theorem d_Model_init_258 : decode b_Model_init 258 = .ok (.aload_n 0, 1) := by decide +kernel
theorem d_Model_init_259 : decode b_Model_init 259 = .ok (.bipush 8, 2) := by decide +kernel
theorem d_Model_init_261 : decode b_Model_init 261 = .ok (.newarray .int, 2) := by decide +kernel
theorem d_Model_init_263 : decode b_Model_init 263 = .ok (.putfield 105, 3) := by decide +kernel
theorem d_Model_init_266 : decode b_Model_init 266 = .ok (.aload_n 0, 1) := by decide +kernel
theorem d_Model_init_267 : decode b_Model_init 267 = .ok (.bipush 40, 2) := by decide +kernel
theorem d_Model_init_269 : decode b_Model_init 269 = .ok (.newarray .int, 2) := by decide +kernel
theorem d_Model_init_271 : decode b_Model_init 271 = .ok (.putfield 108, 3) := by decide +kernel
theorem d_Model_init_274 : decode b_Model_init 274 = .ok (.return_, 1) := by decide +kernel
theorem d_Model_rule_0 : decode b_Model_rule 0 = .ok (.iload_n 1, 1) := by decide +kernel
theorem d_Model_rule_1 : decode b_Model_rule 1 = .ok (.iconst 3, 1) := by decide +kernel
theorem d_Model_rule_2 : decode b_Model_rule 2 = .ok (.invokestatic 111, 3) := by decide +kernel
theorem d_Model_rule_5 : decode b_Model_rule 5 = .ok (.ifCond .ne 54, 3) := by decide +kernel
theorem d_Model_rule_8 : decode b_Model_rule 8 = .ok (.iload_n 2, 1) := by decide +kernel
theorem d_Model_rule_9 : decode b_Model_rule 9 = .ok (.bipush 8, 2) := by decide +kernel
theorem d_Model_rule_11 : decode b_Model_rule 11 = .ok (.invokestatic 111, 3) := by decide +kernel
theorem d_Model_rule_14 : decode b_Model_rule 14 = .ok (.ifCond .ne 45, 3) := by decide +kernel
theorem d_Model_rule_17 : decode b_Model_rule 17 = .ok (.iload_n 3, 1) := by decide +kernel
theorem d_Model_rule_18 : decode b_Model_rule 18 = .ok (.iconst 3, 1) := by decide +kernel
theorem d_Model_rule_19 : decode b_Model_rule 19 = .ok (.invokestatic 111, 3) := by decide +kernel
theorem d_Model_rule_22 : decode b_Model_rule 22 = .ok (.ifCond .ne 37, 3) := by decide +kernel
theorem d_Model_rule_25 : decode b_Model_rule 25 = .ok (.iload 4, 2) := by decide +kernel
theorem d_Model_rule_27 : decode b_Model_rule 27 = .ok (.iconst 3, 1) := by decide +kernel
theorem d_Model_rule_28 : decode b_Model_rule 28 = .ok (.invokestatic 111, 3) := by decide +kernel
theorem d_Model_rule_31 : decode b_Model_rule 31 = .ok (.ifCond .ne 28, 3) := by decide +kernel
theorem d_Model_rule_34 : decode b_Model_rule 34 = .ok (.iload_n 2, 1) := by decide +kernel
theorem d_Model_rule_35 : decode b_Model_rule 35 = .ok (.iconst 3, 1) := by decide +kernel
theorem d_Model_rule_36 : decode b_Model_rule 36 = .ok (.if_icmp .ge 7, 3) := by decide +kernel
theorem d_Model_rule_39 : decode b_Model_rule 39 = .ok (.iload_n 3, 1) := by decide +kernel
theorem d_Model_rule_40 : decode b_Model_rule 40 = .ok (.ifCond .ne 19, 3) := by decide +kernel
theorem d_Model_rule_43 : decode b_Model_rule 43 = .ok (.iload_n 2, 1) := by decide +kernel
theorem d_Model_rule_44 : decode b_Model_rule 44 = .ok (.iconst 5, 1) := by decide +kernel
theorem d_Model_rule_45 : decode b_Model_rule 45 = .ok (.if_icmp .lt 9, 3) := by decide +kernel
theorem d_Model_rule_48 : decode b_Model_rule 48 = .ok (.iload_n 2, 1) := by decide +kernel
theorem d_Model_rule_49 : decode b_Model_rule 49 = .ok (.bipush 8, 2) := by decide +kernel
theorem d_Model_rule_51 : decode b_Model_rule 51 = .ok (.if_icmp .ne 10, 3) := by decide +kernel
theorem d_Model_rule_54 : decode b_Model_rule 54 = .ok (.iload 4, 2) := by decide +kernel
theorem d_Model_rule_56 : decode b_Model_rule 56 = .ok (.ifCond .eq 5, 3) := by decide +kernel
theorem d_Model_rule_59 : decode b_Model_rule 59 = .ok (.iconst (-1), 1) := by decide +kernel
theorem d_Model_rule_60 : decode b_Model_rule 60 = .ok (.ireturn, 1) := by decide +kernel
theorem d_Model_rule_61 : decode b_Model_rule 61 = .ok (.iload_n 2, 1) := by decide +kernel
theorem d_Model_rule_62 : decode b_Model_rule 62 = .ok (.bipush 8, 2) := by decide +kernel
theorem d_Model_rule_64 : decode b_Model_rule 64 = .ok (.if_icmp .ne 8, 3) := by decide +kernel
theorem d_Model_rule_67 : decode b_Model_rule 67 = .ok (.iload_n 3, 1) := by decide +kernel
theorem d_Model_rule_68 : decode b_Model_rule 68 = .ok (.iload_n 1, 1) := by decide +kernel
theorem d_Model_rule_69 : decode b_Model_rule 69 = .ok (.if_icmp .eq 24, 3) := by decide +kernel
theorem d_Model_rule_72 : decode b_Model_rule 72 = .ok (.iload 5, 2) := by decide +kernel
theorem d_Model_rule_74 : decode b_Model_rule 74 = .ok (.bipush 9, 2) := by decide +kernel
theorem d_Model_rule_76 : decode b_Model_rule 76 = .ok (.invokestatic 111, 3) := by decide +kernel
theorem d_Model_rule_79 : decode b_Model_rule 79 = .ok (.ifCond .ne 14, 3) := by decide +kernel
theorem d_Model_rule_82 : decode b_Model_rule 82 = .ok (.iload_n 2, 1) := by decide +kernel
theorem d_Model_rule_83 : decode b_Model_rule 83 = .ok (.bipush 8, 2) := by decide +kernel
theorem d_Model_rule_85 : decode b_Model_rule 85 = .ok (.if_icmp .ne 10, 3) := by decide +kernel
theorem d_Model_rule_88 : decode b_Model_rule 88 = .ok (.iload 5, 2) := by decide +kernel
theorem d_Model_rule_90 : decode b_Model_rule 90 = .ok (.ifCond .ne 5, 3) := by decide +kernel
theorem d_Model_rule_93 : decode b_Model_rule 93 = .ok (.iconst (-1), 1) := by decide +kernel
theorem d_Model_rule_94 : decode b_Model_rule 94 = .ok (.ireturn, 1) := by decide +kernel
theorem d_Model_rule_95 : decode b_Model_rule 95 = .ok (.aload_n 0, 1) := by decide +kernel
theorem d_Model_rule_96 : decode b_Model_rule 96 = .ok (.getfield 115, 3) := by decide +kernel
theorem d_Model_rule_99 : decode b_Model_rule 99 = .ok (.bipush 24, 2) := by decide +kernel
theorem d_Model_rule_101 : decode b_Model_rule 101 = .ok (.if_icmp .ne 6, 3) := by decide +kernel
theorem d_Model_rule_104 : decode b_Model_rule 104 = .ok (.bipush (-2), 2) := by decide +kernel
theorem d_Model_rule_106 : decode b_Model_rule 106 = .ok (.ireturn, 1) := by decide +kernel
theorem d_Model_rule_107 : decode b_Model_rule 107 = .ok (.aload_n 0, 1) := by decide +kernel
theorem d_Model_rule_108 : decode b_Model_rule 108 = .ok (.getfield 7, 3) := by decide +kernel
theorem d_Model_rule_111 : decode b_Model_rule 111 = .ok (.aload_n 0, 1) := by decide +kernel
theorem d_Model_rule_112 : decode b_Model_rule 112 = .ok (.getfield 115, 3) := by decide +kernel
theorem d_Model_rule_115 : decode b_Model_rule 115 = .ok (.iload_n 1, 1) := by decide +kernel
theorem d_Model_rule_116 : decode b_Model_rule 116 = .ok (.iastore, 1) := by decide +kernel
theorem d_Model_rule_117 : decode b_Model_rule 117 = .ok (.aload_n 0, 1) := by decide +kernel
theorem d_Model_rule_118 : decode b_Model_rule 118 = .ok (.getfield 13, 3) := by decide +kernel
theorem d_Model_rule_121 : decode b_Model_rule 121 = .ok (.aload_n 0, 1) := by decide +kernel
theorem d_Model_rule_122 : decode b_Model_rule 122 = .ok (.getfield 115, 3) := by decide +kernel
theorem d_Model_rule_125 : decode b_Model_rule 125 = .ok (.iload_n 2, 1) := by decide +kernel
theorem d_Model_rule_126 : decode b_Model_rule 126 = .ok (.iastore, 1) := by decide +kernel
theorem d_Model_rule_127 : decode b_Model_rule 127 = .ok (.aload_n 0, 1) := by decide +kernel
theorem d_Model_rule_128 : decode b_Model_rule 128 = .ok (.getfield 16, 3) := by decide +kernel
theorem d_Model_rule_131 : decode b_Model_rule 131 = .ok (.aload_n 0, 1) := by decide +kernel
theorem d_Model_rule_132 : decode b_Model_rule 132 = .ok (.getfield 115, 3) := by decide +kernel
theorem d_Model_rule_135 : decode b_Model_rule 135 = .ok (.iload_n 3, 1) := by decide +kernel
theorem d_Model_rule_136 : decode b_Model_rule 136 = .ok (.iastore, 1) := by decide +kernel
theorem d_Model_rule_137 : decode b_Model_rule 137 = .ok (.aload_n 0, 1) := by decide +kernel
theorem d_Model_rule_138 : decode b_Model_rule 138 = .ok (.getfield 19, 3) := by decide +kernel
theorem d_Model_rule_141 : decode b_Model_rule 141 = .ok (.aload_n 0, 1) := by decide +kernel
theorem d_Model_rule_142 : decode b_Model_rule 142 = .ok (.getfield 115, 3) := by decide +kernel
theorem d_Model_rule_145 : decode b_Model_rule 145 = .ok (.iload 4, 2) := by decide +kernel
theorem d_Model_rule_147 : decode b_Model_rule 147 = .ok (.iastore, 1) := by decide +kernel
theorem d_Model_rule_148 : decode b_Model_rule 148 = .ok (.aload_n 0, 1) := by decide +kernel
theorem d_Model_rule_149 : decode b_Model_rule 149 = .ok (.getfield 22, 3) := by decide +kernel
theorem d_Model_rule_152 : decode b_Model_rule 152 = .ok (.aload_n 0, 1) := by decide +kernel
theorem d_Model_rule_153 : decode b_Model_rule 153 = .ok (.getfield 115, 3) := by decide +kernel
theorem d_Model_rule_156 : decode b_Model_rule 156 = .ok (.iload 5, 2) := by decide +kernel
theorem d_Model_rule_158 : decode b_Model_rule 158 = .ok (.iastore, 1) := by decide +kernel
theorem d_Model_rule_159 : decode b_Model_rule 159 = .ok (.aload_n 0, 1) := by decide +kernel
theorem d_Model_rule_160 : decode b_Model_rule 160 = .ok (.dup, 1) := by decide +kernel
theorem d_Model_rule_161 : decode b_Model_rule 161 = .ok (.getfield 115, 3) := by decide +kernel
theorem d_Model_rule_164 : decode b_Model_rule 164 = .ok (.iconst 1, 1) := by decide +kernel
theorem d_Model_rule_165 : decode b_Model_rule 165 = .ok (.iadd, 1) := by decide +kernel
theorem d_Model_rule_166 : decode b_Model_rule 166 = .ok (.putfield 115, 3) := by decide +kernel
theorem d_Model_rule_169 : decode b_Model_rule 169 = .ok (.aload_n 0, 1) := by decide +kernel
theorem d_Model_rule_170 : decode b_Model_rule 170 = .ok (.getfield 115, 3) := by decide +kernel
theorem d_Model_rule_173 : decode b_Model_rule 173 = .ok (.iconst 1, 1) := by decide +kernel
theorem d_Model_rule_174 : decode b_Model_rule 174 = .ok (.isub, 1) := by decide +kernel
theorem d_Model_rule_175 : decode b_Model_rule 175 = .ok (.ireturn, 1) := by decide +kernel
theorem d_Model_outside_0 : decode b_Model_outside 0 = .ok (.iload_n 0, 1) := by decide +kernel
theorem d_Model_outside_1 : decode b_Model_outside 1 = .ok (.ifCond .lt 8, 3) := by decide +kernel
theorem d_Model_outside_4 : decode b_Model_outside 4 = .ok (.iload_n 0, 1) := by decide +kernel
theorem d_Model_outside_5 : decode b_Model_outside 5 = .ok (.iload_n 1, 1) := by decide +kernel
theorem d_Model_outside_6 : decode b_Model_outside 6 = .ok (.if_icmp .le 7, 3) := by decide +kernel
theorem d_Model_outside_9 : decode b_Model_outside 9 = .ok (.iconst 1, 1) := by decide +kernel
theorem d_Model_outside_10 : decode b_Model_outside 10 = .ok (.goto 4, 3) := by decide +kernel
theorem d_Model_outside_13 : decode b_Model_outside 13 = .ok (.iconst 0, 1) := by decide +kernel
theorem d_Model_outside_14 : decode b_Model_outside 14 = .ok (.ireturn, 1) := by decide +kernel
theorem d_Model_clear_0 : decode b_Model_clear 0 = .ok (.aload_n 0, 1) := by decide +kernel
theorem d_Model_clear_1 : decode b_Model_clear 1 = .ok (.iconst 0, 1) := by decide +kernel
theorem d_Model_clear_2 : decode b_Model_clear 2 = .ok (.putfield 115, 3) := by decide +kernel
theorem d_Model_clear_5 : decode b_Model_clear 5 = .ok (.return_, 1) := by decide +kernel
theorem d_Model_states_0 : decode b_Model_states 0 = .ok (.aload_n 0, 1) := by decide +kernel
theorem d_Model_states_1 : decode b_Model_states 1 = .ok (.iconst 0, 1) := by decide +kernel
theorem d_Model_states_2 : decode b_Model_states 2 = .ok (.putfield 145, 3) := by decide +kernel
theorem d_Model_states_5 : decode b_Model_states 5 = .ok (.iconst 0, 1) := by decide +kernel
theorem d_Model_states_6 : decode b_Model_states 6 = .ok (.istore_n 1, 1) := by decide +kernel
theorem d_Model_states_7 : decode b_Model_states 7 = .ok (.iload_n 1, 1) := by decide +kernel
theorem d_Model_states_8 : decode b_Model_states 8 = .ok (.iconst 3, 1) := by decide +kernel
theorem d_Model_states_9 : decode b_Model_states 9 = .ok (.if_icmp .ge 19, 3) := by decide +kernel
theorem d_Model_states_12 : decode b_Model_states 12 = .ok (.aload_n 0, 1) := by decide +kernel
theorem d_Model_states_13 : decode b_Model_states 13 = .ok (.iload_n 1, 1) := by decide +kernel
theorem d_Model_states_14 : decode b_Model_states 14 = .ok (.invokevirtual 138, 3) := by decide +kernel
theorem d_Model_states_17 : decode b_Model_states 17 = .ok (.aload_n 0, 1) := by decide +kernel
theorem d_Model_states_18 : decode b_Model_states 18 = .ok (.invokevirtual 148, 3) := by decide +kernel
theorem d_Model_states_21 : decode b_Model_states 21 = .ok (.istore_n 2, 1) := by decide +kernel
theorem d_Model_states_22 : decode b_Model_states 22 = .ok (.iinc 1 1, 3) := by decide +kernel
theorem d_Model_states_25 : decode b_Model_states 25 = .ok (.goto (-18), 3) := by decide +kernel
theorem d_Model_states_28 : decode b_Model_states 28 = .ok (.iconst 0, 1) := by decide +kernel
theorem d_Model_states_29 : decode b_Model_states 29 = .ok (.istore_n 1, 1) := by decide +kernel
theorem d_Model_states_30 : decode b_Model_states 30 = .ok (.iload_n 1, 1) := by decide +kernel
theorem d_Model_states_31 : decode b_Model_states 31 = .ok (.aload_n 0, 1) := by decide +kernel
theorem d_Model_states_32 : decode b_Model_states 32 = .ok (.getfield 145, 3) := by decide +kernel
theorem d_Model_states_35 : decode b_Model_states 35 = .ok (.if_icmp .ge 85, 3) := by decide +kernel
theorem d_Model_states_38 : decode b_Model_states 38 = .ok (.iconst 3, 1) := by decide +kernel
theorem d_Model_states_39 : decode b_Model_states 39 = .ok (.istore_n 2, 1) := by decide +kernel
theorem d_Model_states_40 : decode b_Model_states 40 = .ok (.iload_n 2, 1) := by decide +kernel
theorem d_Model_states_41 : decode b_Model_states 41 = .ok (.iconst 5, 1) := by decide +kernel
theorem d_Model_states_42 : decode b_Model_states 42 = .ok (.if_icmp .ge 22, 3) := by decide +kernel
theorem d_Model_states_45 : decode b_Model_states 45 = .ok (.aload_n 0, 1) := by decide +kernel
theorem d_Model_states_46 : decode b_Model_states 46 = .ok (.iload_n 2, 1) := by decide +kernel
theorem d_Model_states_47 : decode b_Model_states 47 = .ok (.iload_n 1, 1) := by decide +kernel
theorem d_Model_states_48 : decode b_Model_states 48 = .ok (.iload_n 1, 1) := by decide +kernel
theorem d_Model_states_49 : decode b_Model_states 49 = .ok (.invokevirtual 152, 3) := by decide +kernel
theorem d_Model_states_52 : decode b_Model_states 52 = .ok (.ifCond .ne 6, 3) := by decide +kernel
theorem d_Model_states_55 : decode b_Model_states 55 = .ok (.bipush (-4), 2) := by decide +kernel
theorem d_Model_states_57 : decode b_Model_states 57 = .ok (.ireturn, 1) := by decide +kernel
theorem d_Model_states_58 : decode b_Model_states 58 = .ok (.iinc 2 1, 3) := by decide +kernel
theorem d_Model_states_61 : decode b_Model_states 61 = .ok (.goto (-21), 3) := by decide +kernel
theorem d_Model_states_64 : decode b_Model_states 64 = .ok (.iconst 5, 1) := by decide +kernel
theorem d_Model_states_65 : decode b_Model_states 65 = .ok (.istore_n 2, 1) := by decide +kernel
theorem d_Model_states_66 : decode b_Model_states 66 = .ok (.iload_n 2, 1) := by decide +kernel
theorem d_Model_states_67 : decode b_Model_states 67 = .ok (.bipush 8, 2) := by decide +kernel
theorem d_Model_states_69 : decode b_Model_states 69 = .ok (.if_icmp .ge 45, 3) := by decide +kernel
theorem d_Model_states_72 : decode b_Model_states 72 = .ok (.iconst 0, 1) := by decide +kernel
theorem d_Model_states_73 : decode b_Model_states 73 = .ok (.istore_n 3, 1) := by decide +kernel
theorem d_Model_states_74 : decode b_Model_states 74 = .ok (.iload_n 3, 1) := by decide +kernel
theorem d_Model_states_75 : decode b_Model_states 75 = .ok (.iload_n 1, 1) := by decide +kernel
theorem d_Model_states_76 : decode b_Model_states 76 = .ok (.if_icmp .gt 32, 3) := by decide +kernel
theorem d_Model_states_79 : decode b_Model_states 79 = .ok (.aload_n 0, 1) := by decide +kernel
theorem d_Model_states_80 : decode b_Model_states 80 = .ok (.iload_n 2, 1) := by decide +kernel
theorem d_Model_states_81 : decode b_Model_states 81 = .ok (.iload_n 1, 1) := by decide +kernel
theorem d_Model_states_82 : decode b_Model_states 82 = .ok (.iload_n 3, 1) := by decide +kernel
theorem d_Model_states_83 : decode b_Model_states 83 = .ok (.invokevirtual 152, 3) := by decide +kernel
theorem d_Model_states_86 : decode b_Model_states 86 = .ok (.ifCond .eq 13, 3) := by decide +kernel
theorem d_Model_states_89 : decode b_Model_states 89 = .ok (.aload_n 0, 1) := by decide +kernel
theorem d_Model_states_90 : decode b_Model_states 90 = .ok (.iload_n 2, 1) := by decide +kernel
theorem d_Model_states_91 : decode b_Model_states 91 = .ok (.iload_n 3, 1) := by decide +kernel
theorem d_Model_states_92 : decode b_Model_states 92 = .ok (.iload_n 1, 1) := by decide +kernel
theorem d_Model_states_93 : decode b_Model_states 93 = .ok (.invokevirtual 152, 3) := by decide +kernel
theorem d_Model_states_96 : decode b_Model_states 96 = .ok (.ifCond .ne 6, 3) := by decide +kernel
theorem d_Model_states_99 : decode b_Model_states 99 = .ok (.bipush (-4), 2) := by decide +kernel
theorem d_Model_states_101 : decode b_Model_states 101 = .ok (.ireturn, 1) := by decide +kernel
theorem d_Model_states_102 : decode b_Model_states 102 = .ok (.iinc 3 1, 3) := by decide +kernel
theorem d_Model_states_105 : decode b_Model_states 105 = .ok (.goto (-31), 3) := by decide +kernel
theorem d_Model_states_108 : decode b_Model_states 108 = .ok (.iinc 2 1, 3) := by decide +kernel
theorem d_Model_states_111 : decode b_Model_states 111 = .ok (.goto (-45), 3) := by decide +kernel
theorem d_Model_states_114 : decode b_Model_states 114 = .ok (.iinc 1 1, 3) := by decide +kernel
theorem d_Model_states_117 : decode b_Model_states 117 = .ok (.goto (-87), 3) := by decide +kernel
theorem d_Model_states_120 : decode b_Model_states 120 = .ok (.aload_n 0, 1) := by decide +kernel
theorem d_Model_states_121 : decode b_Model_states 121 = .ok (.getfield 145, 3) := by decide +kernel
theorem d_Model_states_124 : decode b_Model_states 124 = .ok (.ireturn, 1) := by decide +kernel
theorem d_Model_combine_0 : decode b_Model_combine 0 = .ok (.iconst 0, 1) := by decide +kernel
theorem d_Model_combine_1 : decode b_Model_combine 1 = .ok (.istore_n 2, 1) := by decide +kernel
theorem d_Model_combine_2 : decode b_Model_combine 2 = .ok (.iload_n 2, 1) := by decide +kernel
theorem d_Model_combine_3 : decode b_Model_combine 3 = .ok (.iconst 4, 1) := by decide +kernel
theorem d_Model_combine_4 : decode b_Model_combine 4 = .ok (.if_icmp .ge 26, 3) := by decide +kernel
theorem d_Model_combine_7 : decode b_Model_combine 7 = .ok (.aload_n 0, 1) := by decide +kernel
theorem d_Model_combine_8 : decode b_Model_combine 8 = .ok (.getfield 53, 3) := by decide +kernel
theorem d_Model_combine_11 : decode b_Model_combine 11 = .ok (.iload_n 2, 1) := by decide +kernel
theorem d_Model_combine_12 : decode b_Model_combine 12 = .ok (.ldc2_w 118, 3) := by decide +kernel
theorem d_Model_combine_15 : decode b_Model_combine 15 = .ok (.lastore, 1) := by decide +kernel
theorem d_Model_combine_16 : decode b_Model_combine 16 = .ok (.aload_n 0, 1) := by decide +kernel
theorem d_Model_combine_17 : decode b_Model_combine 17 = .ok (.getfield 56, 3) := by decide +kernel
theorem d_Model_combine_20 : decode b_Model_combine 20 = .ok (.iload_n 2, 1) := by decide +kernel
theorem d_Model_combine_21 : decode b_Model_combine 21 = .ok (.bipush (-3), 2) := by decide +kernel
theorem d_Model_combine_23 : decode b_Model_combine 23 = .ok (.iastore, 1) := by decide +kernel
theorem d_Model_combine_24 : decode b_Model_combine 24 = .ok (.iinc 2 1, 3) := by decide +kernel
theorem d_Model_combine_27 : decode b_Model_combine 27 = .ok (.goto (-25), 3) := by decide +kernel
theorem d_Model_combine_30 : decode b_Model_combine 30 = .ok (.iconst 0, 1) := by decide +kernel
theorem d_Model_combine_31 : decode b_Model_combine 31 = .ok (.istore_n 2, 1) := by decide +kernel
theorem d_Model_combine_32 : decode b_Model_combine 32 = .ok (.iload_n 2, 1) := by decide +kernel
theorem d_Model_combine_33 : decode b_Model_combine 33 = .ok (.iconst 5, 1) := by decide +kernel
theorem d_Model_combine_34 : decode b_Model_combine 34 = .ok (.if_icmp .ge 77, 3) := by decide +kernel
theorem d_Model_combine_37 : decode b_Model_combine 37 = .ok (.iconst 0, 1) := by decide +kernel
theorem d_Model_combine_38 : decode b_Model_combine 38 = .ok (.istore_n 3, 1) := by decide +kernel
theorem d_Model_combine_39 : decode b_Model_combine 39 = .ok (.iload_n 3, 1) := by decide +kernel
theorem d_Model_combine_40 : decode b_Model_combine 40 = .ok (.aload_n 0, 1) := by decide +kernel
theorem d_Model_combine_41 : decode b_Model_combine 41 = .ok (.getfield 115, 3) := by decide +kernel
theorem d_Model_combine_44 : decode b_Model_combine 44 = .ok (.if_icmp .ge 61, 3) := by decide +kernel
theorem d_Model_combine_47 : decode b_Model_combine 47 = .ok (.aload_n 0, 1) := by decide +kernel
theorem d_Model_combine_48 : decode b_Model_combine 48 = .ok (.iload_n 3, 1) := by decide +kernel
theorem d_Model_combine_49 : decode b_Model_combine 49 = .ok (.iload_n 1, 1) := by decide +kernel
theorem d_Model_combine_50 : decode b_Model_combine 50 = .ok (.invokevirtual 124, 3) := by decide +kernel
theorem d_Model_combine_53 : decode b_Model_combine 53 = .ok (.lstore 4, 2) := by decide +kernel
theorem d_Model_combine_55 : decode b_Model_combine 55 = .ok (.aload_n 0, 1) := by decide +kernel
theorem d_Model_combine_56 : decode b_Model_combine 56 = .ok (.getfield 53, 3) := by decide +kernel
theorem d_Model_combine_59 : decode b_Model_combine 59 = .ok (.aload_n 0, 1) := by decide +kernel
theorem d_Model_combine_60 : decode b_Model_combine 60 = .ok (.getfield 7, 3) := by decide +kernel
theorem d_Model_combine_63 : decode b_Model_combine 63 = .ok (.iload_n 3, 1) := by decide +kernel
theorem d_Model_combine_64 : decode b_Model_combine 64 = .ok (.iaload, 1) := by decide +kernel
theorem d_Model_combine_65 : decode b_Model_combine 65 = .ok (.lload 4, 2) := by decide +kernel
theorem d_Model_combine_67 : decode b_Model_combine 67 = .ok (.aload_n 0, 1) := by decide +kernel
theorem d_Model_combine_68 : decode b_Model_combine 68 = .ok (.getfield 53, 3) := by decide +kernel
theorem d_Model_combine_71 : decode b_Model_combine 71 = .ok (.aload_n 0, 1) := by decide +kernel
theorem d_Model_combine_72 : decode b_Model_combine 72 = .ok (.getfield 7, 3) := by decide +kernel
theorem d_Model_combine_75 : decode b_Model_combine 75 = .ok (.iload_n 3, 1) := by decide +kernel
theorem d_Model_combine_76 : decode b_Model_combine 76 = .ok (.iaload, 1) := by decide +kernel
theorem d_Model_combine_77 : decode b_Model_combine 77 = .ok (.laload, 1) := by decide +kernel
theorem d_Model_combine_78 : decode b_Model_combine 78 = .ok (.lcmp, 1) := by decide +kernel
theorem d_Model_combine_79 : decode b_Model_combine 79 = .ok (.ifCond .ge 8, 3) := by decide +kernel
theorem d_Model_combine_82 : decode b_Model_combine 82 = .ok (.lload 4, 2) := by decide +kernel
theorem d_Model_combine_84 : decode b_Model_combine 84 = .ok (.goto 14, 3) := by decide +kernel
theorem d_Model_combine_87 : decode b_Model_combine 87 = .ok (.aload_n 0, 1) := by decide +kernel
theorem d_Model_combine_88 : decode b_Model_combine 88 = .ok (.getfield 53, 3) := by decide +kernel
theorem d_Model_combine_91 : decode b_Model_combine 91 = .ok (.aload_n 0, 1) := by decide +kernel
theorem d_Model_combine_92 : decode b_Model_combine 92 = .ok (.getfield 7, 3) := by decide +kernel
theorem d_Model_combine_95 : decode b_Model_combine 95 = .ok (.iload_n 3, 1) := by decide +kernel
theorem d_Model_combine_96 : decode b_Model_combine 96 = .ok (.iaload, 1) := by decide +kernel
theorem d_Model_combine_97 : decode b_Model_combine 97 = .ok (.laload, 1) := by decide +kernel
theorem d_Model_combine_98 : decode b_Model_combine 98 = .ok (.lastore, 1) := by decide +kernel
theorem d_Model_combine_99 : decode b_Model_combine 99 = .ok (.iinc 3 1, 3) := by decide +kernel
theorem d_Model_combine_102 : decode b_Model_combine 102 = .ok (.goto (-63), 3) := by decide +kernel
theorem d_Model_combine_105 : decode b_Model_combine 105 = .ok (.iinc 2 1, 3) := by decide +kernel
theorem d_Model_combine_108 : decode b_Model_combine 108 = .ok (.goto (-76), 3) := by decide +kernel
theorem d_Model_combine_111 : decode b_Model_combine 111 = .ok (.aload_n 0, 1) := by decide +kernel
theorem d_Model_combine_112 : decode b_Model_combine 112 = .ok (.getfield 115, 3) := by decide +kernel
theorem d_Model_combine_115 : decode b_Model_combine 115 = .ok (.iconst 1, 1) := by decide +kernel
theorem d_Model_combine_116 : decode b_Model_combine 116 = .ok (.isub, 1) := by decide +kernel
theorem d_Model_combine_117 : decode b_Model_combine 117 = .ok (.istore_n 2, 1) := by decide +kernel
theorem d_Model_combine_118 : decode b_Model_combine 118 = .ok (.iload_n 2, 1) := by decide +kernel
theorem d_Model_combine_119 : decode b_Model_combine 119 = .ok (.ifCond .lt 65, 3) := by decide +kernel
theorem d_Model_combine_122 : decode b_Model_combine 122 = .ok (.aload_n 0, 1) := by decide +kernel
theorem d_Model_combine_123 : decode b_Model_combine 123 = .ok (.getfield 7, 3) := by decide +kernel
theorem d_Model_combine_126 : decode b_Model_combine 126 = .ok (.iload_n 2, 1) := by decide +kernel
theorem d_Model_combine_127 : decode b_Model_combine 127 = .ok (.iaload, 1) := by decide +kernel
theorem d_Model_combine_128 : decode b_Model_combine 128 = .ok (.istore_n 3, 1) := by decide +kernel
theorem d_Model_combine_129 : decode b_Model_combine 129 = .ok (.aload_n 0, 1) := by decide +kernel
theorem d_Model_combine_130 : decode b_Model_combine 130 = .ok (.iload_n 2, 1) := by decide +kernel
theorem d_Model_combine_131 : decode b_Model_combine 131 = .ok (.iload_n 1, 1) := by decide +kernel
theorem d_Model_combine_132 : decode b_Model_combine 132 = .ok (.invokevirtual 124, 3) := by decide +kernel
theorem d_Model_combine_135 : decode b_Model_combine 135 = .ok (.lstore 4, 2) := by decide +kernel
theorem d_Model_combine_137 : decode b_Model_combine 137 = .ok (.aload_n 0, 1) := by decide +kernel
theorem d_Model_combine_138 : decode b_Model_combine 138 = .ok (.getfield 56, 3) := by decide +kernel
theorem d_Model_combine_141 : decode b_Model_combine 141 = .ok (.iload_n 3, 1) := by decide +kernel
theorem d_Model_combine_142 : decode b_Model_combine 142 = .ok (.aload_n 0, 1) := by decide +kernel
theorem d_Model_combine_143 : decode b_Model_combine 143 = .ok (.getfield 53, 3) := by decide +kernel
theorem d_Model_combine_146 : decode b_Model_combine 146 = .ok (.iload_n 3, 1) := by decide +kernel
theorem d_Model_combine_147 : decode b_Model_combine 147 = .ok (.laload, 1) := by decide +kernel
theorem d_Model_combine_148 : decode b_Model_combine 148 = .ok (.ldc2_w 118, 3) := by decide +kernel
theorem d_Model_combine_151 : decode b_Model_combine 151 = .ok (.lcmp, 1) := by decide +kernel
theorem d_Model_combine_152 : decode b_Model_combine 152 = .ok (.ifCond .ge 19, 3) := by decide +kernel
theorem d_Model_combine_155 : decode b_Model_combine 155 = .ok (.lload 4, 2) := by decide +kernel
theorem d_Model_combine_157 : decode b_Model_combine 157 = .ok (.aload_n 0, 1) := by decide +kernel
theorem d_Model_combine_158 : decode b_Model_combine 158 = .ok (.getfield 53, 3) := by decide +kernel
theorem d_Model_combine_161 : decode b_Model_combine 161 = .ok (.iload_n 3, 1) := by decide +kernel
theorem d_Model_combine_162 : decode b_Model_combine 162 = .ok (.laload, 1) := by decide +kernel
theorem d_Model_combine_163 : decode b_Model_combine 163 = .ok (.lcmp, 1) := by decide +kernel
theorem d_Model_combine_164 : decode b_Model_combine 164 = .ok (.ifCond .ne 7, 3) := by decide +kernel
theorem d_Model_combine_167 : decode b_Model_combine 167 = .ok (.iload_n 2, 1) := by decide +kernel
theorem d_Model_combine_168 : decode b_Model_combine 168 = .ok (.goto 9, 3) := by decide +kernel
theorem d_Model_combine_171 : decode b_Model_combine 171 = .ok (.aload_n 0, 1) := by decide +kernel
theorem d_Model_combine_172 : decode b_Model_combine 172 = .ok (.getfield 56, 3) := by decide +kernel
theorem d_Model_combine_175 : decode b_Model_combine 175 = .ok (.iload_n 3, 1) := by decide +kernel
theorem d_Model_combine_176 : decode b_Model_combine 176 = .ok (.iaload, 1) := by decide +kernel
theorem d_Model_combine_177 : decode b_Model_combine 177 = .ok (.iastore, 1) := by decide +kernel
theorem d_Model_combine_178 : decode b_Model_combine 178 = .ok (.iinc 2 (-1), 3) := by decide +kernel
theorem d_Model_combine_181 : decode b_Model_combine 181 = .ok (.goto (-63), 3) := by decide +kernel
theorem d_Model_combine_184 : decode b_Model_combine 184 = .ok (.return_, 1) := by decide +kernel
theorem d_Model_through_0 : decode b_Model_through 0 = .ok (.aload_n 0, 1) := by decide +kernel
theorem d_Model_through_1 : decode b_Model_through 1 = .ok (.getfield 22, 3) := by decide +kernel
theorem d_Model_through_4 : decode b_Model_through 4 = .ok (.iload_n 1, 1) := by decide +kernel
theorem d_Model_through_5 : decode b_Model_through 5 = .ok (.iaload, 1) := by decide +kernel
theorem d_Model_through_6 : decode b_Model_through 6 = .ok (.i2l, 1) := by decide +kernel
theorem d_Model_through_7 : decode b_Model_through 7 = .ok (.lstore_n 3, 1) := by decide +kernel
theorem d_Model_through_8 : decode b_Model_through 8 = .ok (.aload_n 0, 1) := by decide +kernel
theorem d_Model_through_9 : decode b_Model_through 9 = .ok (.getfield 13, 3) := by decide +kernel
theorem d_Model_through_12 : decode b_Model_through 12 = .ok (.iload_n 1, 1) := by decide +kernel
theorem d_Model_through_13 : decode b_Model_through 13 = .ok (.iaload, 1) := by decide +kernel
theorem d_Model_through_14 : decode b_Model_through 14 = .ok (.bipush 8, 2) := by decide +kernel
theorem d_Model_through_16 : decode b_Model_through 16 = .ok (.if_icmp .ne 17, 3) := by decide +kernel
theorem d_Model_through_19 : decode b_Model_through 19 = .ok (.lload_n 3, 1) := by decide +kernel
theorem d_Model_through_20 : decode b_Model_through 20 = .ok (.aload_n 0, 1) := by decide +kernel
theorem d_Model_through_21 : decode b_Model_through 21 = .ok (.getfield 53, 3) := by decide +kernel
theorem d_Model_through_24 : decode b_Model_through 24 = .ok (.aload_n 0, 1) := by decide +kernel
theorem d_Model_through_25 : decode b_Model_through 25 = .ok (.getfield 16, 3) := by decide +kernel
theorem d_Model_through_28 : decode b_Model_through 28 = .ok (.iload_n 1, 1) := by decide +kernel
theorem d_Model_through_29 : decode b_Model_through 29 = .ok (.iaload, 1) := by decide +kernel
theorem d_Model_through_30 : decode b_Model_through 30 = .ok (.laload, 1) := by decide +kernel
theorem d_Model_through_31 : decode b_Model_through 31 = .ok (.ladd, 1) := by decide +kernel
theorem d_Model_through_32 : decode b_Model_through 32 = .ok (.lreturn, 1) := by decide +kernel
theorem d_Model_through_33 : decode b_Model_through 33 = .ok (.aload_n 0, 1) := by decide +kernel
theorem d_Model_through_34 : decode b_Model_through 34 = .ok (.getfield 13, 3) := by decide +kernel
theorem d_Model_through_37 : decode b_Model_through 37 = .ok (.iload_n 1, 1) := by decide +kernel
theorem d_Model_through_38 : decode b_Model_through 38 = .ok (.iaload, 1) := by decide +kernel
theorem d_Model_through_39 : decode b_Model_through 39 = .ok (.iload_n 2, 1) := by decide +kernel
theorem d_Model_through_40 : decode b_Model_through 40 = .ok (.if_icmp .eq 7, 3) := by decide +kernel
theorem d_Model_through_43 : decode b_Model_through 43 = .ok (.ldc2_w 118, 3) := by decide +kernel
theorem d_Model_through_46 : decode b_Model_through 46 = .ok (.lreturn, 1) := by decide +kernel
theorem d_Model_through_47 : decode b_Model_through 47 = .ok (.iload_n 2, 1) := by decide +kernel
theorem d_Model_through_48 : decode b_Model_through 48 = .ok (.invokestatic 120, 3) := by decide +kernel
theorem d_Model_through_51 : decode b_Model_through 51 = .ok (.istore 5, 2) := by decide +kernel
theorem d_Model_through_53 : decode b_Model_through 53 = .ok (.lload_n 3, 1) := by decide +kernel
theorem d_Model_through_54 : decode b_Model_through 54 = .ok (.iload 5, 2) := by decide +kernel
theorem d_Model_through_56 : decode b_Model_through 56 = .ok (.ifCond .le 17, 3) := by decide +kernel
theorem d_Model_through_59 : decode b_Model_through 59 = .ok (.aload_n 0, 1) := by decide +kernel
theorem d_Model_through_60 : decode b_Model_through 60 = .ok (.getfield 47, 3) := by decide +kernel
theorem d_Model_through_63 : decode b_Model_through 63 = .ok (.aload_n 0, 1) := by decide +kernel
theorem d_Model_through_64 : decode b_Model_through 64 = .ok (.getfield 16, 3) := by decide +kernel
theorem d_Model_through_67 : decode b_Model_through 67 = .ok (.iload_n 1, 1) := by decide +kernel
theorem d_Model_through_68 : decode b_Model_through 68 = .ok (.iaload, 1) := by decide +kernel
theorem d_Model_through_69 : decode b_Model_through 69 = .ok (.laload, 1) := by decide +kernel
theorem d_Model_through_70 : decode b_Model_through 70 = .ok (.goto 4, 3) := by decide +kernel
theorem d_Model_through_73 : decode b_Model_through 73 = .ok (.lconst 0, 1) := by decide +kernel
theorem d_Model_through_74 : decode b_Model_through 74 = .ok (.ladd, 1) := by decide +kernel
theorem d_Model_through_75 : decode b_Model_through 75 = .ok (.iload 5, 2) := by decide +kernel
theorem d_Model_through_77 : decode b_Model_through 77 = .ok (.iconst 1, 1) := by decide +kernel
theorem d_Model_through_78 : decode b_Model_through 78 = .ok (.if_icmp .le 17, 3) := by decide +kernel
theorem d_Model_through_81 : decode b_Model_through 81 = .ok (.aload_n 0, 1) := by decide +kernel
theorem d_Model_through_82 : decode b_Model_through 82 = .ok (.getfield 50, 3) := by decide +kernel
theorem d_Model_through_85 : decode b_Model_through 85 = .ok (.aload_n 0, 1) := by decide +kernel
theorem d_Model_through_86 : decode b_Model_through 86 = .ok (.getfield 19, 3) := by decide +kernel
theorem d_Model_through_89 : decode b_Model_through 89 = .ok (.iload_n 1, 1) := by decide +kernel
theorem d_Model_through_90 : decode b_Model_through 90 = .ok (.iaload, 1) := by decide +kernel
theorem d_Model_through_91 : decode b_Model_through 91 = .ok (.laload, 1) := by decide +kernel
theorem d_Model_through_92 : decode b_Model_through 92 = .ok (.goto 4, 3) := by decide +kernel
theorem d_Model_through_95 : decode b_Model_through 95 = .ok (.lconst 0, 1) := by decide +kernel
theorem d_Model_through_96 : decode b_Model_through 96 = .ok (.ladd, 1) := by decide +kernel
theorem d_Model_through_97 : decode b_Model_through 97 = .ok (.lreturn, 1) := by decide +kernel
theorem d_Model_kids_0 : decode b_Model_kids 0 = .ok (.iload_n 0, 1) := by decide +kernel
theorem d_Model_kids_1 : decode b_Model_kids 1 = .ok (.iconst 3, 1) := by decide +kernel
theorem d_Model_kids_2 : decode b_Model_kids 2 = .ok (.if_icmp .ge 7, 3) := by decide +kernel
theorem d_Model_kids_5 : decode b_Model_kids 5 = .ok (.iconst 0, 1) := by decide +kernel
theorem d_Model_kids_6 : decode b_Model_kids 6 = .ok (.goto 13, 3) := by decide +kernel
theorem d_Model_kids_9 : decode b_Model_kids 9 = .ok (.iload_n 0, 1) := by decide +kernel
theorem d_Model_kids_10 : decode b_Model_kids 10 = .ok (.iconst 5, 1) := by decide +kernel
theorem d_Model_kids_11 : decode b_Model_kids 11 = .ok (.if_icmp .ge 7, 3) := by decide +kernel
theorem d_Model_kids_14 : decode b_Model_kids 14 = .ok (.iconst 1, 1) := by decide +kernel
theorem d_Model_kids_15 : decode b_Model_kids 15 = .ok (.goto 4, 3) := by decide +kernel
theorem d_Model_kids_18 : decode b_Model_kids 18 = .ok (.iconst 2, 1) := by decide +kernel
theorem d_Model_kids_19 : decode b_Model_kids 19 = .ok (.ireturn, 1) := by decide +kernel
theorem d_Model_known_0 : decode b_Model_known 0 = .ok (.aload_n 0, 1) := by decide +kernel
theorem d_Model_known_1 : decode b_Model_known 1 = .ok (.invokevirtual 141, 3) := by decide +kernel
theorem d_Model_known_4 : decode b_Model_known 4 = .ok (.lstore_n 1, 1) := by decide +kernel
theorem d_Model_known_5 : decode b_Model_known 5 = .ok (.iconst 0, 1) := by decide +kernel
theorem d_Model_known_6 : decode b_Model_known 6 = .ok (.istore_n 3, 1) := by decide +kernel
theorem d_Model_known_7 : decode b_Model_known 7 = .ok (.iload_n 3, 1) := by decide +kernel
theorem d_Model_known_8 : decode b_Model_known 8 = .ok (.aload_n 0, 1) := by decide +kernel
theorem d_Model_known_9 : decode b_Model_known 9 = .ok (.getfield 145, 3) := by decide +kernel
theorem d_Model_known_12 : decode b_Model_known 12 = .ok (.if_icmp .ge 115, 3) := by decide +kernel
theorem d_Model_known_15 : decode b_Model_known 15 = .ok (.iconst 1, 1) := by decide +kernel
theorem d_Model_known_16 : decode b_Model_known 16 = .ok (.istore 4, 2) := by decide +kernel
theorem d_Model_known_18 : decode b_Model_known 18 = .ok (.iconst 0, 1) := by decide +kernel
theorem d_Model_known_19 : decode b_Model_known 19 = .ok (.istore 5, 2) := by decide +kernel
theorem d_Model_known_21 : decode b_Model_known 21 = .ok (.iload 5, 2) := by decide +kernel
theorem d_Model_known_23 : decode b_Model_known 23 = .ok (.iconst 4, 1) := by decide +kernel
theorem d_Model_known_24 : decode b_Model_known 24 = .ok (.if_icmp .ge 90, 3) := by decide +kernel
theorem d_Model_known_27 : decode b_Model_known 27 = .ok (.aload_n 0, 1) := by decide +kernel
theorem d_Model_known_28 : decode b_Model_known 28 = .ok (.getfield 53, 3) := by decide +kernel
theorem d_Model_known_31 : decode b_Model_known 31 = .ok (.iload 5, 2) := by decide +kernel
theorem d_Model_known_33 : decode b_Model_known 33 = .ok (.laload, 1) := by decide +kernel
theorem d_Model_known_34 : decode b_Model_known 34 = .ok (.ldc2_w 118, 3) := by decide +kernel
theorem d_Model_known_37 : decode b_Model_known 37 = .ok (.lcmp, 1) := by decide +kernel
theorem d_Model_known_38 : decode b_Model_known 38 = .ok (.ifCond .ne 9, 3) := by decide +kernel
theorem d_Model_known_41 : decode b_Model_known 41 = .ok (.ldc2_w 118, 3) := by decide +kernel
theorem d_Model_known_44 : decode b_Model_known 44 = .ok (.goto 12, 3) := by decide +kernel
theorem d_Model_known_47 : decode b_Model_known 47 = .ok (.aload_n 0, 1) := by decide +kernel
theorem d_Model_known_48 : decode b_Model_known 48 = .ok (.getfield 53, 3) := by decide +kernel
theorem d_Model_known_51 : decode b_Model_known 51 = .ok (.iload 5, 2) := by decide +kernel
theorem d_Model_known_53 : decode b_Model_known 53 = .ok (.laload, 1) := by decide +kernel
theorem d_Model_known_54 : decode b_Model_known 54 = .ok (.lload_n 1, 1) := by decide +kernel
theorem d_Model_known_55 : decode b_Model_known 55 = .ok (.lsub, 1) := by decide +kernel
theorem d_Model_known_56 : decode b_Model_known 56 = .ok (.lstore 6, 2) := by decide +kernel
theorem d_Model_known_58 : decode b_Model_known 58 = .ok (.iload 4, 2) := by decide +kernel
theorem d_Model_known_60 : decode b_Model_known 60 = .ok (.ifCond .eq 45, 3) := by decide +kernel
theorem d_Model_known_63 : decode b_Model_known 63 = .ok (.aload_n 0, 1) := by decide +kernel
theorem d_Model_known_64 : decode b_Model_known 64 = .ok (.getfield 59, 3) := by decide +kernel
theorem d_Model_known_67 : decode b_Model_known 67 = .ok (.iconst 4, 1) := by decide +kernel
theorem d_Model_known_68 : decode b_Model_known 68 = .ok (.iload_n 3, 1) := by decide +kernel
theorem d_Model_known_69 : decode b_Model_known 69 = .ok (.imul, 1) := by decide +kernel
theorem d_Model_known_70 : decode b_Model_known 70 = .ok (.iload 5, 2) := by decide +kernel
theorem d_Model_known_72 : decode b_Model_known 72 = .ok (.iadd, 1) := by decide +kernel
theorem d_Model_known_73 : decode b_Model_known 73 = .ok (.laload, 1) := by decide +kernel
theorem d_Model_known_74 : decode b_Model_known 74 = .ok (.lload 6, 2) := by decide +kernel
theorem d_Model_known_76 : decode b_Model_known 76 = .ok (.lcmp, 1) := by decide +kernel
theorem d_Model_known_77 : decode b_Model_known 77 = .ok (.ifCond .ne 28, 3) := by decide +kernel
theorem d_Model_known_80 : decode b_Model_known 80 = .ok (.aload_n 0, 1) := by decide +kernel
theorem d_Model_known_81 : decode b_Model_known 81 = .ok (.getfield 62, 3) := by decide +kernel
theorem d_Model_known_84 : decode b_Model_known 84 = .ok (.iconst 4, 1) := by decide +kernel
theorem d_Model_known_85 : decode b_Model_known 85 = .ok (.iload_n 3, 1) := by decide +kernel
theorem d_Model_known_86 : decode b_Model_known 86 = .ok (.imul, 1) := by decide +kernel
theorem d_Model_known_87 : decode b_Model_known 87 = .ok (.iload 5, 2) := by decide +kernel
theorem d_Model_known_89 : decode b_Model_known 89 = .ok (.iadd, 1) := by decide +kernel
theorem d_Model_known_90 : decode b_Model_known 90 = .ok (.iaload, 1) := by decide +kernel
theorem d_Model_known_91 : decode b_Model_known 91 = .ok (.aload_n 0, 1) := by decide +kernel
theorem d_Model_known_92 : decode b_Model_known 92 = .ok (.getfield 56, 3) := by decide +kernel
theorem d_Model_known_95 : decode b_Model_known 95 = .ok (.iload 5, 2) := by decide +kernel
theorem d_Model_known_97 : decode b_Model_known 97 = .ok (.iaload, 1) := by decide +kernel
theorem d_Model_known_98 : decode b_Model_known 98 = .ok (.if_icmp .ne 7, 3) := by decide +kernel
theorem d_Model_known_101 : decode b_Model_known 101 = .ok (.iconst 1, 1) := by decide +kernel
theorem d_Model_known_102 : decode b_Model_known 102 = .ok (.goto 4, 3) := by decide +kernel
theorem d_Model_known_105 : decode b_Model_known 105 = .ok (.iconst 0, 1) := by decide +kernel
theorem d_Model_known_106 : decode b_Model_known 106 = .ok (.istore 4, 2) := by decide +kernel
theorem d_Model_known_108 : decode b_Model_known 108 = .ok (.iinc 5 1, 3) := by decide +kernel
theorem d_Model_known_111 : decode b_Model_known 111 = .ok (.goto (-90), 3) := by decide +kernel
theorem d_Model_known_114 : decode b_Model_known 114 = .ok (.iload 4, 2) := by decide +kernel
theorem d_Model_known_116 : decode b_Model_known 116 = .ok (.ifCond .eq 5, 3) := by decide +kernel
theorem d_Model_known_119 : decode b_Model_known 119 = .ok (.iconst 1, 1) := by decide +kernel
theorem d_Model_known_120 : decode b_Model_known 120 = .ok (.ireturn, 1) := by decide +kernel
theorem d_Model_known_121 : decode b_Model_known 121 = .ok (.iinc 3 1, 3) := by decide +kernel
theorem d_Model_known_124 : decode b_Model_known 124 = .ok (.goto (-117), 3) := by decide +kernel
theorem d_Model_known_127 : decode b_Model_known 127 = .ok (.iconst 0, 1) := by decide +kernel
theorem d_Model_known_128 : decode b_Model_known 128 = .ok (.istore_n 3, 1) := by decide +kernel
theorem d_Model_known_129 : decode b_Model_known 129 = .ok (.iload_n 3, 1) := by decide +kernel
theorem d_Model_known_130 : decode b_Model_known 130 = .ok (.iconst 4, 1) := by decide +kernel
theorem d_Model_known_131 : decode b_Model_known 131 = .ok (.if_icmp .ge 68, 3) := by decide +kernel
theorem d_Model_known_134 : decode b_Model_known 134 = .ok (.aload_n 0, 1) := by decide +kernel
theorem d_Model_known_135 : decode b_Model_known 135 = .ok (.getfield 59, 3) := by decide +kernel
theorem d_Model_known_138 : decode b_Model_known 138 = .ok (.iconst 4, 1) := by decide +kernel
theorem d_Model_known_139 : decode b_Model_known 139 = .ok (.aload_n 0, 1) := by decide +kernel
theorem d_Model_known_140 : decode b_Model_known 140 = .ok (.getfield 145, 3) := by decide +kernel
theorem d_Model_known_143 : decode b_Model_known 143 = .ok (.imul, 1) := by decide +kernel
theorem d_Model_known_144 : decode b_Model_known 144 = .ok (.iload_n 3, 1) := by decide +kernel
theorem d_Model_known_145 : decode b_Model_known 145 = .ok (.iadd, 1) := by decide +kernel
theorem d_Model_known_146 : decode b_Model_known 146 = .ok (.aload_n 0, 1) := by decide +kernel
theorem d_Model_known_147 : decode b_Model_known 147 = .ok (.getfield 53, 3) := by decide +kernel
theorem d_Model_known_150 : decode b_Model_known 150 = .ok (.iload_n 3, 1) := by decide +kernel
theorem d_Model_known_151 : decode b_Model_known 151 = .ok (.laload, 1) := by decide +kernel
theorem d_Model_known_152 : decode b_Model_known 152 = .ok (.ldc2_w 118, 3) := by decide +kernel
theorem d_Model_known_155 : decode b_Model_known 155 = .ok (.lcmp, 1) := by decide +kernel
theorem d_Model_known_156 : decode b_Model_known 156 = .ok (.ifCond .ne 9, 3) := by decide +kernel
theorem d_Model_known_159 : decode b_Model_known 159 = .ok (.ldc2_w 118, 3) := by decide +kernel
theorem d_Model_known_162 : decode b_Model_known 162 = .ok (.goto 11, 3) := by decide +kernel
theorem d_Model_known_165 : decode b_Model_known 165 = .ok (.aload_n 0, 1) := by decide +kernel
theorem d_Model_known_166 : decode b_Model_known 166 = .ok (.getfield 53, 3) := by decide +kernel
theorem d_Model_known_169 : decode b_Model_known 169 = .ok (.iload_n 3, 1) := by decide +kernel
theorem d_Model_known_170 : decode b_Model_known 170 = .ok (.laload, 1) := by decide +kernel
theorem d_Model_known_171 : decode b_Model_known 171 = .ok (.lload_n 1, 1) := by decide +kernel
theorem d_Model_known_172 : decode b_Model_known 172 = .ok (.lsub, 1) := by decide +kernel
theorem d_Model_known_173 : decode b_Model_known 173 = .ok (.lastore, 1) := by decide +kernel
theorem d_Model_known_174 : decode b_Model_known 174 = .ok (.aload_n 0, 1) := by decide +kernel
theorem d_Model_known_175 : decode b_Model_known 175 = .ok (.getfield 62, 3) := by decide +kernel
theorem d_Model_known_178 : decode b_Model_known 178 = .ok (.iconst 4, 1) := by decide +kernel
theorem d_Model_known_179 : decode b_Model_known 179 = .ok (.aload_n 0, 1) := by decide +kernel
theorem d_Model_known_180 : decode b_Model_known 180 = .ok (.getfield 145, 3) := by decide +kernel
theorem d_Model_known_183 : decode b_Model_known 183 = .ok (.imul, 1) := by decide +kernel
theorem d_Model_known_184 : decode b_Model_known 184 = .ok (.iload_n 3, 1) := by decide +kernel
theorem d_Model_known_185 : decode b_Model_known 185 = .ok (.iadd, 1) := by decide +kernel
theorem d_Model_known_186 : decode b_Model_known 186 = .ok (.aload_n 0, 1) := by decide +kernel
theorem d_Model_known_187 : decode b_Model_known 187 = .ok (.getfield 56, 3) := by decide +kernel
theorem d_Model_known_190 : decode b_Model_known 190 = .ok (.iload_n 3, 1) := by decide +kernel
theorem d_Model_known_191 : decode b_Model_known 191 = .ok (.iaload, 1) := by decide +kernel
theorem d_Model_known_192 : decode b_Model_known 192 = .ok (.iastore, 1) := by decide +kernel
theorem d_Model_known_193 : decode b_Model_known 193 = .ok (.iinc 3 1, 3) := by decide +kernel
theorem d_Model_known_196 : decode b_Model_known 196 = .ok (.goto (-67), 3) := by decide +kernel
theorem d_Model_known_199 : decode b_Model_known 199 = .ok (.aload_n 0, 1) := by decide +kernel
theorem d_Model_known_200 : decode b_Model_known 200 = .ok (.dup, 1) := by decide +kernel
theorem d_Model_known_201 : decode b_Model_known 201 = .ok (.getfield 145, 3) := by decide +kernel
theorem d_Model_known_204 : decode b_Model_known 204 = .ok (.iconst 1, 1) := by decide +kernel
theorem d_Model_known_205 : decode b_Model_known 205 = .ok (.iadd, 1) := by decide +kernel
theorem d_Model_known_206 : decode b_Model_known 206 = .ok (.putfield 145, 3) := by decide +kernel
theorem d_Model_known_209 : decode b_Model_known 209 = .ok (.iconst 0, 1) := by decide +kernel
theorem d_Model_known_210 : decode b_Model_known 210 = .ok (.ireturn, 1) := by decide +kernel
theorem d_Model_lowest_0 : decode b_Model_lowest 0 = .ok (.ldc2_w 118, 3) := by decide +kernel
theorem d_Model_lowest_3 : decode b_Model_lowest 3 = .ok (.lstore_n 1, 1) := by decide +kernel
theorem d_Model_lowest_4 : decode b_Model_lowest 4 = .ok (.iconst 0, 1) := by decide +kernel
theorem d_Model_lowest_5 : decode b_Model_lowest 5 = .ok (.istore_n 3, 1) := by decide +kernel
theorem d_Model_lowest_6 : decode b_Model_lowest 6 = .ok (.iload_n 3, 1) := by decide +kernel
theorem d_Model_lowest_7 : decode b_Model_lowest 7 = .ok (.iconst 4, 1) := by decide +kernel
theorem d_Model_lowest_8 : decode b_Model_lowest 8 = .ok (.if_icmp .ge 31, 3) := by decide +kernel
theorem d_Model_lowest_11 : decode b_Model_lowest 11 = .ok (.aload_n 0, 1) := by decide +kernel
theorem d_Model_lowest_12 : decode b_Model_lowest 12 = .ok (.getfield 53, 3) := by decide +kernel
theorem d_Model_lowest_15 : decode b_Model_lowest 15 = .ok (.iload_n 3, 1) := by decide +kernel
theorem d_Model_lowest_16 : decode b_Model_lowest 16 = .ok (.laload, 1) := by decide +kernel
theorem d_Model_lowest_17 : decode b_Model_lowest 17 = .ok (.lload_n 1, 1) := by decide +kernel
theorem d_Model_lowest_18 : decode b_Model_lowest 18 = .ok (.lcmp, 1) := by decide +kernel
theorem d_Model_lowest_19 : decode b_Model_lowest 19 = .ok (.ifCond .ge 12, 3) := by decide +kernel
theorem d_Model_lowest_22 : decode b_Model_lowest 22 = .ok (.aload_n 0, 1) := by decide +kernel
theorem d_Model_lowest_23 : decode b_Model_lowest 23 = .ok (.getfield 53, 3) := by decide +kernel
theorem d_Model_lowest_26 : decode b_Model_lowest 26 = .ok (.iload_n 3, 1) := by decide +kernel
theorem d_Model_lowest_27 : decode b_Model_lowest 27 = .ok (.laload, 1) := by decide +kernel
theorem d_Model_lowest_28 : decode b_Model_lowest 28 = .ok (.goto 4, 3) := by decide +kernel
theorem d_Model_lowest_31 : decode b_Model_lowest 31 = .ok (.lload_n 1, 1) := by decide +kernel
theorem d_Model_lowest_32 : decode b_Model_lowest 32 = .ok (.lstore_n 1, 1) := by decide +kernel
theorem d_Model_lowest_33 : decode b_Model_lowest 33 = .ok (.iinc 3 1, 3) := by decide +kernel
theorem d_Model_lowest_36 : decode b_Model_lowest 36 = .ok (.goto (-30), 3) := by decide +kernel
theorem d_Model_lowest_39 : decode b_Model_lowest 39 = .ok (.lload_n 1, 1) := by decide +kernel
theorem d_Model_lowest_40 : decode b_Model_lowest 40 = .ok (.lreturn, 1) := by decide +kernel
theorem d_Model_reach_0 : decode b_Model_reach 0 = .ok (.iconst 0, 1) := by decide +kernel
theorem d_Model_reach_1 : decode b_Model_reach 1 = .ok (.istore 4, 2) := by decide +kernel
theorem d_Model_reach_3 : decode b_Model_reach 3 = .ok (.iload 4, 2) := by decide +kernel
theorem d_Model_reach_5 : decode b_Model_reach 5 = .ok (.iconst 4, 1) := by decide +kernel
theorem d_Model_reach_6 : decode b_Model_reach 6 = .ok (.if_icmp .ge 45, 3) := by decide +kernel
theorem d_Model_reach_9 : decode b_Model_reach 9 = .ok (.aload_n 0, 1) := by decide +kernel
theorem d_Model_reach_10 : decode b_Model_reach 10 = .ok (.getfield 47, 3) := by decide +kernel
theorem d_Model_reach_13 : decode b_Model_reach 13 = .ok (.iload 4, 2) := by decide +kernel
theorem d_Model_reach_15 : decode b_Model_reach 15 = .ok (.aload_n 0, 1) := by decide +kernel
theorem d_Model_reach_16 : decode b_Model_reach 16 = .ok (.getfield 59, 3) := by decide +kernel
theorem d_Model_reach_19 : decode b_Model_reach 19 = .ok (.iconst 4, 1) := by decide +kernel
theorem d_Model_reach_20 : decode b_Model_reach 20 = .ok (.iload_n 2, 1) := by decide +kernel
theorem d_Model_reach_21 : decode b_Model_reach 21 = .ok (.imul, 1) := by decide +kernel
theorem d_Model_reach_22 : decode b_Model_reach 22 = .ok (.iload 4, 2) := by decide +kernel
theorem d_Model_reach_24 : decode b_Model_reach 24 = .ok (.iadd, 1) := by decide +kernel
theorem d_Model_reach_25 : decode b_Model_reach 25 = .ok (.laload, 1) := by decide +kernel
theorem d_Model_reach_26 : decode b_Model_reach 26 = .ok (.lastore, 1) := by decide +kernel
theorem d_Model_reach_27 : decode b_Model_reach 27 = .ok (.aload_n 0, 1) := by decide +kernel
theorem d_Model_reach_28 : decode b_Model_reach 28 = .ok (.getfield 50, 3) := by decide +kernel
theorem d_Model_reach_31 : decode b_Model_reach 31 = .ok (.iload 4, 2) := by decide +kernel
theorem d_Model_reach_33 : decode b_Model_reach 33 = .ok (.aload_n 0, 1) := by decide +kernel
theorem d_Model_reach_34 : decode b_Model_reach 34 = .ok (.getfield 59, 3) := by decide +kernel
theorem d_Model_reach_37 : decode b_Model_reach 37 = .ok (.iconst 4, 1) := by decide +kernel
theorem d_Model_reach_38 : decode b_Model_reach 38 = .ok (.iload_n 3, 1) := by decide +kernel
theorem d_Model_reach_39 : decode b_Model_reach 39 = .ok (.imul, 1) := by decide +kernel
theorem d_Model_reach_40 : decode b_Model_reach 40 = .ok (.iload 4, 2) := by decide +kernel
theorem d_Model_reach_42 : decode b_Model_reach 42 = .ok (.iadd, 1) := by decide +kernel
theorem d_Model_reach_43 : decode b_Model_reach 43 = .ok (.laload, 1) := by decide +kernel
theorem d_Model_reach_44 : decode b_Model_reach 44 = .ok (.lastore, 1) := by decide +kernel
theorem d_Model_reach_45 : decode b_Model_reach 45 = .ok (.iinc 4 1, 3) := by decide +kernel
theorem d_Model_reach_48 : decode b_Model_reach 48 = .ok (.goto (-45), 3) := by decide +kernel
theorem d_Model_reach_51 : decode b_Model_reach 51 = .ok (.aload_n 0, 1) := by decide +kernel
theorem d_Model_reach_52 : decode b_Model_reach 52 = .ok (.iload_n 1, 1) := by decide +kernel
theorem d_Model_reach_53 : decode b_Model_reach 53 = .ok (.invokevirtual 138, 3) := by decide +kernel
theorem d_Model_reach_56 : decode b_Model_reach 56 = .ok (.aload_n 0, 1) := by decide +kernel
theorem d_Model_reach_57 : decode b_Model_reach 57 = .ok (.invokevirtual 148, 3) := by decide +kernel
theorem d_Model_reach_60 : decode b_Model_reach 60 = .ok (.istore 4, 2) := by decide +kernel
theorem d_Model_reach_62 : decode b_Model_reach 62 = .ok (.iload 4, 2) := by decide +kernel
theorem d_Model_reach_64 : decode b_Model_reach 64 = .ok (.ifCond .ne 12, 3) := by decide +kernel
theorem d_Model_reach_67 : decode b_Model_reach 67 = .ok (.aload_n 0, 1) := by decide +kernel
theorem d_Model_reach_68 : decode b_Model_reach 68 = .ok (.getfield 145, 3) := by decide +kernel
theorem d_Model_reach_71 : decode b_Model_reach 71 = .ok (.bipush 40, 2) := by decide +kernel
theorem d_Model_reach_73 : decode b_Model_reach 73 = .ok (.if_icmp .gt 7, 3) := by decide +kernel
theorem d_Model_reach_76 : decode b_Model_reach 76 = .ok (.iconst 1, 1) := by decide +kernel
theorem d_Model_reach_77 : decode b_Model_reach 77 = .ok (.goto 4, 3) := by decide +kernel
theorem d_Model_reach_80 : decode b_Model_reach 80 = .ok (.iconst 0, 1) := by decide +kernel
theorem d_Model_reach_81 : decode b_Model_reach 81 = .ok (.ireturn, 1) := by decide +kernel
theorem d_Model_push_0 : decode b_Model_push 0 = .ok (.iload_n 1, 1) := by decide +kernel
theorem d_Model_push_1 : decode b_Model_push 1 = .ok (.bipush 7, 2) := by decide +kernel
theorem d_Model_push_3 : decode b_Model_push 3 = .ok (.invokestatic 111, 3) := by decide +kernel
theorem d_Model_push_6 : decode b_Model_push 6 = .ok (.ifCond .ne 33, 3) := by decide +kernel
theorem d_Model_push_9 : decode b_Model_push 9 = .ok (.iload_n 1, 1) := by decide +kernel
theorem d_Model_push_10 : decode b_Model_push 10 = .ok (.iconst 1, 1) := by decide +kernel
theorem d_Model_push_11 : decode b_Model_push 11 = .ok (.if_icmp .eq 8, 3) := by decide +kernel
theorem d_Model_push_14 : decode b_Model_push 14 = .ok (.iload_n 1, 1) := by decide +kernel
theorem d_Model_push_15 : decode b_Model_push 15 = .ok (.iconst 2, 1) := by decide +kernel
theorem d_Model_push_16 : decode b_Model_push 16 = .ok (.if_icmp .ne 12, 3) := by decide +kernel
theorem d_Model_push_19 : decode b_Model_push 19 = .ok (.iload_n 2, 1) := by decide +kernel
theorem d_Model_push_20 : decode b_Model_push 20 = .ok (.bipush 7, 2) := by decide +kernel
theorem d_Model_push_22 : decode b_Model_push 22 = .ok (.invokestatic 111, 3) := by decide +kernel
theorem d_Model_push_25 : decode b_Model_push 25 = .ok (.ifCond .ne 14, 3) := by decide +kernel
theorem d_Model_push_28 : decode b_Model_push 28 = .ok (.aload_n 0, 1) := by decide +kernel
theorem d_Model_push_29 : decode b_Model_push 29 = .ok (.getfield 128, 3) := by decide +kernel
theorem d_Model_push_32 : decode b_Model_push 32 = .ok (.iload_n 1, 1) := by decide +kernel
theorem d_Model_push_33 : decode b_Model_push 33 = .ok (.invokestatic 120, 3) := by decide +kernel
theorem d_Model_push_36 : decode b_Model_push 36 = .ok (.if_icmp .ge 5, 3) := by decide +kernel
theorem d_Model_push_39 : decode b_Model_push 39 = .ok (.iconst (-1), 1) := by decide +kernel
theorem d_Model_push_40 : decode b_Model_push 40 = .ok (.ireturn, 1) := by decide +kernel
theorem d_Model_push_41 : decode b_Model_push 41 = .ok (.iload_n 1, 1) := by decide +kernel
theorem d_Model_push_42 : decode b_Model_push 42 = .ok (.invokestatic 120, 3) := by decide +kernel
theorem d_Model_push_45 : decode b_Model_push 45 = .ok (.istore_n 3, 1) := by decide +kernel
theorem d_Model_push_46 : decode b_Model_push 46 = .ok (.aload_n 0, 1) := by decide +kernel
theorem d_Model_push_47 : decode b_Model_push 47 = .ok (.getfield 131, 3) := by decide +kernel
theorem d_Model_push_50 : decode b_Model_push 50 = .ok (.iconst 1, 1) := by decide +kernel
theorem d_Model_push_51 : decode b_Model_push 51 = .ok (.isub, 1) := by decide +kernel
theorem d_Model_push_52 : decode b_Model_push 52 = .ok (.iload_n 3, 1) := by decide +kernel
theorem d_Model_push_53 : decode b_Model_push 53 = .ok (.iconst 1, 1) := by decide +kernel
theorem d_Model_push_54 : decode b_Model_push 54 = .ok (.if_icmp .le 17, 3) := by decide +kernel
theorem d_Model_push_57 : decode b_Model_push 57 = .ok (.aload_n 0, 1) := by decide +kernel
theorem d_Model_push_58 : decode b_Model_push 58 = .ok (.getfield 31, 3) := by decide +kernel
theorem d_Model_push_61 : decode b_Model_push 61 = .ok (.aload_n 0, 1) := by decide +kernel
theorem d_Model_push_62 : decode b_Model_push 62 = .ok (.getfield 131, 3) := by decide +kernel
theorem d_Model_push_65 : decode b_Model_push 65 = .ok (.iconst 1, 1) := by decide +kernel
theorem d_Model_push_66 : decode b_Model_push 66 = .ok (.isub, 1) := by decide +kernel
theorem d_Model_push_67 : decode b_Model_push 67 = .ok (.iaload, 1) := by decide +kernel
theorem d_Model_push_68 : decode b_Model_push 68 = .ok (.goto 4, 3) := by decide +kernel
theorem d_Model_push_71 : decode b_Model_push 71 = .ok (.iconst 0, 1) := by decide +kernel
theorem d_Model_push_72 : decode b_Model_push 72 = .ok (.isub, 1) := by decide +kernel
theorem d_Model_push_73 : decode b_Model_push 73 = .ok (.istore 4, 2) := by decide +kernel
theorem d_Model_push_75 : decode b_Model_push 75 = .ok (.iload_n 3, 1) := by decide +kernel
theorem d_Model_push_76 : decode b_Model_push 76 = .ok (.ifCond .ne 7, 3) := by decide +kernel
theorem d_Model_push_79 : decode b_Model_push 79 = .ok (.iconst 1, 1) := by decide +kernel
theorem d_Model_push_80 : decode b_Model_push 80 = .ok (.goto 47, 3) := by decide +kernel
theorem d_Model_push_83 : decode b_Model_push 83 = .ok (.iconst 1, 1) := by decide +kernel
theorem d_Model_push_84 : decode b_Model_push 84 = .ok (.aload_n 0, 1) := by decide +kernel
theorem d_Model_push_85 : decode b_Model_push 85 = .ok (.getfield 34, 3) := by decide +kernel
theorem d_Model_push_88 : decode b_Model_push 88 = .ok (.iload 4, 2) := by decide +kernel
theorem d_Model_push_90 : decode b_Model_push 90 = .ok (.iaload, 1) := by decide +kernel
theorem d_Model_push_91 : decode b_Model_push 91 = .ok (.aload_n 0, 1) := by decide +kernel
theorem d_Model_push_92 : decode b_Model_push 92 = .ok (.getfield 34, 3) := by decide +kernel
theorem d_Model_push_95 : decode b_Model_push 95 = .ok (.aload_n 0, 1) := by decide +kernel
theorem d_Model_push_96 : decode b_Model_push 96 = .ok (.getfield 131, 3) := by decide +kernel
theorem d_Model_push_99 : decode b_Model_push 99 = .ok (.iconst 1, 1) := by decide +kernel
theorem d_Model_push_100 : decode b_Model_push 100 = .ok (.isub, 1) := by decide +kernel
theorem d_Model_push_101 : decode b_Model_push 101 = .ok (.iaload, 1) := by decide +kernel
theorem d_Model_push_102 : decode b_Model_push 102 = .ok (.if_icmp .le 13, 3) := by decide +kernel
theorem d_Model_push_105 : decode b_Model_push 105 = .ok (.aload_n 0, 1) := by decide +kernel
theorem d_Model_push_106 : decode b_Model_push 106 = .ok (.getfield 34, 3) := by decide +kernel
theorem d_Model_push_109 : decode b_Model_push 109 = .ok (.iload 4, 2) := by decide +kernel
theorem d_Model_push_111 : decode b_Model_push 111 = .ok (.iaload, 1) := by decide +kernel
theorem d_Model_push_112 : decode b_Model_push 112 = .ok (.goto 14, 3) := by decide +kernel
theorem d_Model_push_115 : decode b_Model_push 115 = .ok (.aload_n 0, 1) := by decide +kernel
theorem d_Model_push_116 : decode b_Model_push 116 = .ok (.getfield 34, 3) := by decide +kernel
theorem d_Model_push_119 : decode b_Model_push 119 = .ok (.aload_n 0, 1) := by decide +kernel
theorem d_Model_push_120 : decode b_Model_push 120 = .ok (.getfield 131, 3) := by decide +kernel
theorem d_Model_push_123 : decode b_Model_push 123 = .ok (.iconst 1, 1) := by decide +kernel
theorem d_Model_push_124 : decode b_Model_push 124 = .ok (.isub, 1) := by decide +kernel
theorem d_Model_push_125 : decode b_Model_push 125 = .ok (.iaload, 1) := by decide +kernel
theorem d_Model_push_126 : decode b_Model_push 126 = .ok (.iadd, 1) := by decide +kernel
theorem d_Model_push_127 : decode b_Model_push 127 = .ok (.istore 5, 2) := by decide +kernel
theorem d_Model_push_129 : decode b_Model_push 129 = .ok (.aload_n 0, 1) := by decide +kernel
theorem d_Model_push_130 : decode b_Model_push 130 = .ok (.getfield 131, 3) := by decide +kernel
theorem d_Model_push_133 : decode b_Model_push 133 = .ok (.bipush 40, 2) := by decide +kernel
theorem d_Model_push_135 : decode b_Model_push 135 = .ok (.if_icmp .eq 10, 3) := by decide +kernel
theorem d_Model_push_138 : decode b_Model_push 138 = .ok (.iload 5, 2) := by decide +kernel
theorem d_Model_push_140 : decode b_Model_push 140 = .ok (.bipush 10, 2) := by decide +kernel
theorem d_Model_push_142 : decode b_Model_push 142 = .ok (.if_icmp .le 6, 3) := by decide +kernel
theorem d_Model_push_145 : decode b_Model_push 145 = .ok (.bipush (-2), 2) := by decide +kernel
theorem d_Model_push_147 : decode b_Model_push 147 = .ok (.ireturn, 1) := by decide +kernel
theorem d_Model_push_148 : decode b_Model_push 148 = .ok (.aload_n 0, 1) := by decide +kernel
theorem d_Model_push_149 : decode b_Model_push 149 = .ok (.getfield 25, 3) := by decide +kernel
theorem d_Model_push_152 : decode b_Model_push 152 = .ok (.aload_n 0, 1) := by decide +kernel
theorem d_Model_push_153 : decode b_Model_push 153 = .ok (.getfield 131, 3) := by decide +kernel
theorem d_Model_push_156 : decode b_Model_push 156 = .ok (.iload_n 1, 1) := by decide +kernel
theorem d_Model_push_157 : decode b_Model_push 157 = .ok (.iastore, 1) := by decide +kernel
theorem d_Model_push_158 : decode b_Model_push 158 = .ok (.aload_n 0, 1) := by decide +kernel
theorem d_Model_push_159 : decode b_Model_push 159 = .ok (.getfield 28, 3) := by decide +kernel
theorem d_Model_push_162 : decode b_Model_push 162 = .ok (.aload_n 0, 1) := by decide +kernel
theorem d_Model_push_163 : decode b_Model_push 163 = .ok (.getfield 131, 3) := by decide +kernel
theorem d_Model_push_166 : decode b_Model_push 166 = .ok (.iload_n 2, 1) := by decide +kernel
theorem d_Model_push_167 : decode b_Model_push 167 = .ok (.iastore, 1) := by decide +kernel
theorem d_Model_push_168 : decode b_Model_push 168 = .ok (.aload_n 0, 1) := by decide +kernel
theorem d_Model_push_169 : decode b_Model_push 169 = .ok (.getfield 31, 3) := by decide +kernel
theorem d_Model_push_172 : decode b_Model_push 172 = .ok (.aload_n 0, 1) := by decide +kernel
theorem d_Model_push_173 : decode b_Model_push 173 = .ok (.getfield 131, 3) := by decide +kernel
theorem d_Model_push_176 : decode b_Model_push 176 = .ok (.iconst 1, 1) := by decide +kernel
theorem d_Model_push_177 : decode b_Model_push 177 = .ok (.iload_n 3, 1) := by decide +kernel
theorem d_Model_push_178 : decode b_Model_push 178 = .ok (.ifCond .le 13, 3) := by decide +kernel
theorem d_Model_push_181 : decode b_Model_push 181 = .ok (.aload_n 0, 1) := by decide +kernel
theorem d_Model_push_182 : decode b_Model_push 182 = .ok (.getfield 31, 3) := by decide +kernel
theorem d_Model_push_185 : decode b_Model_push 185 = .ok (.iload 4, 2) := by decide +kernel
theorem d_Model_push_187 : decode b_Model_push 187 = .ok (.iaload, 1) := by decide +kernel
theorem d_Model_push_188 : decode b_Model_push 188 = .ok (.goto 4, 3) := by decide +kernel
theorem d_Model_push_191 : decode b_Model_push 191 = .ok (.iconst 0, 1) := by decide +kernel
theorem d_Model_push_192 : decode b_Model_push 192 = .ok (.iadd, 1) := by decide +kernel
theorem d_Model_push_193 : decode b_Model_push 193 = .ok (.iload_n 3, 1) := by decide +kernel
theorem d_Model_push_194 : decode b_Model_push 194 = .ok (.iconst 1, 1) := by decide +kernel
theorem d_Model_push_195 : decode b_Model_push 195 = .ok (.if_icmp .le 17, 3) := by decide +kernel
theorem d_Model_push_198 : decode b_Model_push 198 = .ok (.aload_n 0, 1) := by decide +kernel
theorem d_Model_push_199 : decode b_Model_push 199 = .ok (.getfield 31, 3) := by decide +kernel
theorem d_Model_push_202 : decode b_Model_push 202 = .ok (.aload_n 0, 1) := by decide +kernel
theorem d_Model_push_203 : decode b_Model_push 203 = .ok (.getfield 131, 3) := by decide +kernel
theorem d_Model_push_206 : decode b_Model_push 206 = .ok (.iconst 1, 1) := by decide +kernel
theorem d_Model_push_207 : decode b_Model_push 207 = .ok (.isub, 1) := by decide +kernel
theorem d_Model_push_208 : decode b_Model_push 208 = .ok (.iaload, 1) := by decide +kernel
theorem d_Model_push_209 : decode b_Model_push 209 = .ok (.goto 4, 3) := by decide +kernel
theorem d_Model_push_212 : decode b_Model_push 212 = .ok (.iconst 0, 1) := by decide +kernel
theorem d_Model_push_213 : decode b_Model_push 213 = .ok (.iadd, 1) := by decide +kernel
theorem d_Model_push_214 : decode b_Model_push 214 = .ok (.iastore, 1) := by decide +kernel
theorem d_Model_push_215 : decode b_Model_push 215 = .ok (.aload_n 0, 1) := by decide +kernel
theorem d_Model_push_216 : decode b_Model_push 216 = .ok (.getfield 34, 3) := by decide +kernel
theorem d_Model_push_219 : decode b_Model_push 219 = .ok (.aload_n 0, 1) := by decide +kernel
theorem d_Model_push_220 : decode b_Model_push 220 = .ok (.getfield 131, 3) := by decide +kernel
theorem d_Model_push_223 : decode b_Model_push 223 = .ok (.iload 5, 2) := by decide +kernel
theorem d_Model_push_225 : decode b_Model_push 225 = .ok (.iastore, 1) := by decide +kernel
theorem d_Model_push_226 : decode b_Model_push 226 = .ok (.aload_n 0, 1) := by decide +kernel
theorem d_Model_push_227 : decode b_Model_push 227 = .ok (.aload_n 0, 1) := by decide +kernel
theorem d_Model_push_228 : decode b_Model_push 228 = .ok (.getfield 128, 3) := by decide +kernel
theorem d_Model_push_231 : decode b_Model_push 231 = .ok (.iconst 1, 1) := by decide +kernel
theorem d_Model_push_232 : decode b_Model_push 232 = .ok (.iadd, 1) := by decide +kernel
theorem d_Model_push_233 : decode b_Model_push 233 = .ok (.iload_n 3, 1) := by decide +kernel
theorem d_Model_push_234 : decode b_Model_push 234 = .ok (.isub, 1) := by decide +kernel
theorem d_Model_push_235 : decode b_Model_push 235 = .ok (.putfield 128, 3) := by decide +kernel
theorem d_Model_push_238 : decode b_Model_push 238 = .ok (.aload_n 0, 1) := by decide +kernel
theorem d_Model_push_239 : decode b_Model_push 239 = .ok (.getfield 37, 3) := by decide +kernel
theorem d_Model_push_242 : decode b_Model_push 242 = .ok (.aload_n 0, 1) := by decide +kernel
theorem d_Model_push_243 : decode b_Model_push 243 = .ok (.getfield 128, 3) := by decide +kernel
theorem d_Model_push_246 : decode b_Model_push 246 = .ok (.iconst 1, 1) := by decide +kernel
theorem d_Model_push_247 : decode b_Model_push 247 = .ok (.isub, 1) := by decide +kernel
theorem d_Model_push_248 : decode b_Model_push 248 = .ok (.aload_n 0, 1) := by decide +kernel
theorem d_Model_push_249 : decode b_Model_push 249 = .ok (.getfield 131, 3) := by decide +kernel
theorem d_Model_push_252 : decode b_Model_push 252 = .ok (.iconst 1, 1) := by decide +kernel
theorem d_Model_push_253 : decode b_Model_push 253 = .ok (.iadd, 1) := by decide +kernel
theorem d_Model_push_254 : decode b_Model_push 254 = .ok (.aload_n 0, 1) := by decide +kernel
theorem d_Model_push_255 : decode b_Model_push 255 = .ok (.getfield 31, 3) := by decide +kernel
theorem d_Model_push_258 : decode b_Model_push 258 = .ok (.aload_n 0, 1) := by decide +kernel
theorem d_Model_push_259 : decode b_Model_push 259 = .ok (.getfield 131, 3) := by decide +kernel
theorem d_Model_push_262 : decode b_Model_push 262 = .ok (.iaload, 1) := by decide +kernel
theorem d_Model_push_263 : decode b_Model_push 263 = .ok (.isub, 1) := by decide +kernel
theorem d_Model_push_264 : decode b_Model_push 264 = .ok (.iastore, 1) := by decide +kernel
theorem d_Model_push_265 : decode b_Model_push 265 = .ok (.aload_n 0, 1) := by decide +kernel
theorem d_Model_push_266 : decode b_Model_push 266 = .ok (.dup, 1) := by decide +kernel
theorem d_Model_push_267 : decode b_Model_push 267 = .ok (.getfield 131, 3) := by decide +kernel
theorem d_Model_push_270 : decode b_Model_push 270 = .ok (.iconst 1, 1) := by decide +kernel
theorem d_Model_push_271 : decode b_Model_push 271 = .ok (.iadd, 1) := by decide +kernel
theorem d_Model_push_272 : decode b_Model_push 272 = .ok (.putfield 131, 3) := by decide +kernel
theorem d_Model_push_275 : decode b_Model_push 275 = .ok (.aload_n 0, 1) := by decide +kernel
theorem d_Model_push_276 : decode b_Model_push 276 = .ok (.getfield 128, 3) := by decide +kernel
theorem d_Model_push_279 : decode b_Model_push 279 = .ok (.ireturn, 1) := by decide +kernel
theorem d_Model_pop_0 : decode b_Model_pop 0 = .ok (.aload_n 0, 1) := by decide +kernel
theorem d_Model_pop_1 : decode b_Model_pop 1 = .ok (.getfield 128, 3) := by decide +kernel
theorem d_Model_pop_4 : decode b_Model_pop 4 = .ok (.ifCond .ne 5, 3) := by decide +kernel
theorem d_Model_pop_7 : decode b_Model_pop 7 = .ok (.iconst 0, 1) := by decide +kernel
theorem d_Model_pop_8 : decode b_Model_pop 8 = .ok (.ireturn, 1) := by decide +kernel
theorem d_Model_pop_9 : decode b_Model_pop 9 = .ok (.aload_n 0, 1) := by decide +kernel
theorem d_Model_pop_10 : decode b_Model_pop 10 = .ok (.dup, 1) := by decide +kernel
theorem d_Model_pop_11 : decode b_Model_pop 11 = .ok (.getfield 128, 3) := by decide +kernel
theorem d_Model_pop_14 : decode b_Model_pop 14 = .ok (.iconst 1, 1) := by decide +kernel
theorem d_Model_pop_15 : decode b_Model_pop 15 = .ok (.isub, 1) := by decide +kernel
theorem d_Model_pop_16 : decode b_Model_pop 16 = .ok (.putfield 128, 3) := by decide +kernel
theorem d_Model_pop_19 : decode b_Model_pop 19 = .ok (.aload_n 0, 1) := by decide +kernel
theorem d_Model_pop_20 : decode b_Model_pop 20 = .ok (.aload_n 0, 1) := by decide +kernel
theorem d_Model_pop_21 : decode b_Model_pop 21 = .ok (.getfield 37, 3) := by decide +kernel
theorem d_Model_pop_24 : decode b_Model_pop 24 = .ok (.aload_n 0, 1) := by decide +kernel
theorem d_Model_pop_25 : decode b_Model_pop 25 = .ok (.getfield 128, 3) := by decide +kernel
theorem d_Model_pop_28 : decode b_Model_pop 28 = .ok (.iaload, 1) := by decide +kernel
theorem d_Model_pop_29 : decode b_Model_pop 29 = .ok (.putfield 131, 3) := by decide +kernel
theorem d_Model_pop_32 : decode b_Model_pop 32 = .ok (.iconst 1, 1) := by decide +kernel
theorem d_Model_pop_33 : decode b_Model_pop 33 = .ok (.ireturn, 1) := by decide +kernel
theorem d_Model_trees_0 : decode b_Model_trees 0 = .ok (.aload_n 0, 1) := by decide +kernel
theorem d_Model_trees_1 : decode b_Model_trees 1 = .ok (.getfield 128, 3) := by decide +kernel
theorem d_Model_trees_4 : decode b_Model_trees 4 = .ok (.ireturn, 1) := by decide +kernel
theorem d_Model_nodes_0 : decode b_Model_nodes 0 = .ok (.aload_n 0, 1) := by decide +kernel
theorem d_Model_nodes_1 : decode b_Model_nodes 1 = .ok (.getfield 128, 3) := by decide +kernel
theorem d_Model_nodes_4 : decode b_Model_nodes 4 = .ok (.ifCond .ne 7, 3) := by decide +kernel
theorem d_Model_nodes_7 : decode b_Model_nodes 7 = .ok (.iconst 0, 1) := by decide +kernel
theorem d_Model_nodes_8 : decode b_Model_nodes 8 = .ok (.goto 19, 3) := by decide +kernel
theorem d_Model_nodes_11 : decode b_Model_nodes 11 = .ok (.aload_n 0, 1) := by decide +kernel
theorem d_Model_nodes_12 : decode b_Model_nodes 12 = .ok (.getfield 131, 3) := by decide +kernel
theorem d_Model_nodes_15 : decode b_Model_nodes 15 = .ok (.aload_n 0, 1) := by decide +kernel
theorem d_Model_nodes_16 : decode b_Model_nodes 16 = .ok (.getfield 37, 3) := by decide +kernel
theorem d_Model_nodes_19 : decode b_Model_nodes 19 = .ok (.aload_n 0, 1) := by decide +kernel
theorem d_Model_nodes_20 : decode b_Model_nodes 20 = .ok (.getfield 128, 3) := by decide +kernel
theorem d_Model_nodes_23 : decode b_Model_nodes 23 = .ok (.iconst 1, 1) := by decide +kernel
theorem d_Model_nodes_24 : decode b_Model_nodes 24 = .ok (.isub, 1) := by decide +kernel
theorem d_Model_nodes_25 : decode b_Model_nodes 25 = .ok (.iaload, 1) := by decide +kernel
theorem d_Model_nodes_26 : decode b_Model_nodes 26 = .ok (.isub, 1) := by decide +kernel
theorem d_Model_nodes_27 : decode b_Model_nodes 27 = .ok (.ireturn, 1) := by decide +kernel
theorem d_Model_relative_0 : decode b_Model_relative 0 = .ok (.aload_n 0, 1) := by decide +kernel
theorem d_Model_relative_1 : decode b_Model_relative 1 = .ok (.iload_n 1, 1) := by decide +kernel
theorem d_Model_relative_2 : decode b_Model_relative 2 = .ok (.iload_n 2, 1) := by decide +kernel
theorem d_Model_relative_3 : decode b_Model_relative 3 = .ok (.invokevirtual 163, 3) := by decide +kernel
theorem d_Model_relative_6 : decode b_Model_relative 6 = .ok (.ifCond .eq 5, 3) := by decide +kernel
theorem d_Model_relative_9 : decode b_Model_relative 9 = .ok (.iconst (-1), 1) := by decide +kernel
theorem d_Model_relative_10 : decode b_Model_relative 10 = .ok (.ireturn, 1) := by decide +kernel
theorem d_Model_relative_11 : decode b_Model_relative 11 = .ok (.aload_n 0, 1) := by decide +kernel
theorem d_Model_relative_12 : decode b_Model_relative 12 = .ok (.getfield 37, 3) := by decide +kernel
theorem d_Model_relative_15 : decode b_Model_relative 15 = .ok (.aload_n 0, 1) := by decide +kernel
theorem d_Model_relative_16 : decode b_Model_relative 16 = .ok (.getfield 128, 3) := by decide +kernel
theorem d_Model_relative_19 : decode b_Model_relative 19 = .ok (.iconst 1, 1) := by decide +kernel
theorem d_Model_relative_20 : decode b_Model_relative 20 = .ok (.isub, 1) := by decide +kernel
theorem d_Model_relative_21 : decode b_Model_relative 21 = .ok (.iaload, 1) := by decide +kernel
theorem d_Model_relative_22 : decode b_Model_relative 22 = .ok (.iload_n 1, 1) := by decide +kernel
theorem d_Model_relative_23 : decode b_Model_relative 23 = .ok (.iadd, 1) := by decide +kernel
theorem d_Model_relative_24 : decode b_Model_relative 24 = .ok (.istore_n 3, 1) := by decide +kernel
theorem d_Model_relative_25 : decode b_Model_relative 25 = .ok (.ldc2_w 118, 3) := by decide +kernel
theorem d_Model_relative_28 : decode b_Model_relative 28 = .ok (.lstore 4, 2) := by decide +kernel
theorem d_Model_relative_30 : decode b_Model_relative 30 = .ok (.iconst 0, 1) := by decide +kernel
theorem d_Model_relative_31 : decode b_Model_relative 31 = .ok (.istore 6, 2) := by decide +kernel
theorem d_Model_relative_33 : decode b_Model_relative 33 = .ok (.iload 6, 2) := by decide +kernel
theorem d_Model_relative_35 : decode b_Model_relative 35 = .ok (.iconst 4, 1) := by decide +kernel
theorem d_Model_relative_36 : decode b_Model_relative 36 = .ok (.if_icmp .ge 44, 3) := by decide +kernel
theorem d_Model_relative_39 : decode b_Model_relative 39 = .ok (.aload_n 0, 1) := by decide +kernel
theorem d_Model_relative_40 : decode b_Model_relative 40 = .ok (.getfield 40, 3) := by decide +kernel
theorem d_Model_relative_43 : decode b_Model_relative 43 = .ok (.iconst 4, 1) := by decide +kernel
theorem d_Model_relative_44 : decode b_Model_relative 44 = .ok (.iload_n 3, 1) := by decide +kernel
theorem d_Model_relative_45 : decode b_Model_relative 45 = .ok (.imul, 1) := by decide +kernel
theorem d_Model_relative_46 : decode b_Model_relative 46 = .ok (.iload 6, 2) := by decide +kernel
theorem d_Model_relative_48 : decode b_Model_relative 48 = .ok (.iadd, 1) := by decide +kernel
theorem d_Model_relative_49 : decode b_Model_relative 49 = .ok (.laload, 1) := by decide +kernel
theorem d_Model_relative_50 : decode b_Model_relative 50 = .ok (.lload 4, 2) := by decide +kernel
theorem d_Model_relative_52 : decode b_Model_relative 52 = .ok (.lcmp, 1) := by decide +kernel
theorem d_Model_relative_53 : decode b_Model_relative 53 = .ok (.ifCond .ge 17, 3) := by decide +kernel
theorem d_Model_relative_56 : decode b_Model_relative 56 = .ok (.aload_n 0, 1) := by decide +kernel
theorem d_Model_relative_57 : decode b_Model_relative 57 = .ok (.getfield 40, 3) := by decide +kernel
theorem d_Model_relative_60 : decode b_Model_relative 60 = .ok (.iconst 4, 1) := by decide +kernel
theorem d_Model_relative_61 : decode b_Model_relative 61 = .ok (.iload_n 3, 1) := by decide +kernel
theorem d_Model_relative_62 : decode b_Model_relative 62 = .ok (.imul, 1) := by decide +kernel
theorem d_Model_relative_63 : decode b_Model_relative 63 = .ok (.iload 6, 2) := by decide +kernel
theorem d_Model_relative_65 : decode b_Model_relative 65 = .ok (.iadd, 1) := by decide +kernel
theorem d_Model_relative_66 : decode b_Model_relative 66 = .ok (.laload, 1) := by decide +kernel
theorem d_Model_relative_67 : decode b_Model_relative 67 = .ok (.goto 5, 3) := by decide +kernel
theorem d_Model_relative_70 : decode b_Model_relative 70 = .ok (.lload 4, 2) := by decide +kernel
theorem d_Model_relative_72 : decode b_Model_relative 72 = .ok (.lstore 4, 2) := by decide +kernel
theorem d_Model_relative_74 : decode b_Model_relative 74 = .ok (.iinc 6 1, 3) := by decide +kernel
theorem d_Model_relative_77 : decode b_Model_relative 77 = .ok (.goto (-44), 3) := by decide +kernel
theorem d_Model_relative_80 : decode b_Model_relative 80 = .ok (.aload_n 0, 1) := by decide +kernel
theorem d_Model_relative_81 : decode b_Model_relative 81 = .ok (.getfield 40, 3) := by decide +kernel
theorem d_Model_relative_84 : decode b_Model_relative 84 = .ok (.iconst 4, 1) := by decide +kernel
theorem d_Model_relative_85 : decode b_Model_relative 85 = .ok (.iload_n 3, 1) := by decide +kernel
theorem d_Model_relative_86 : decode b_Model_relative 86 = .ok (.imul, 1) := by decide +kernel
theorem d_Model_relative_87 : decode b_Model_relative 87 = .ok (.iload_n 2, 1) := by decide +kernel
theorem d_Model_relative_88 : decode b_Model_relative 88 = .ok (.iadd, 1) := by decide +kernel
theorem d_Model_relative_89 : decode b_Model_relative 89 = .ok (.laload, 1) := by decide +kernel
theorem d_Model_relative_90 : decode b_Model_relative 90 = .ok (.ldc2_w 118, 3) := by decide +kernel
theorem d_Model_relative_93 : decode b_Model_relative 93 = .ok (.lcmp, 1) := by decide +kernel
theorem d_Model_relative_94 : decode b_Model_relative 94 = .ok (.ifCond .ne 8, 3) := by decide +kernel
theorem d_Model_relative_97 : decode b_Model_relative 97 = .ok (.bipush (-3), 2) := by decide +kernel
theorem d_Model_relative_99 : decode b_Model_relative 99 = .ok (.goto 17, 3) := by decide +kernel
theorem d_Model_relative_102 : decode b_Model_relative 102 = .ok (.aload_n 0, 1) := by decide +kernel
theorem d_Model_relative_103 : decode b_Model_relative 103 = .ok (.getfield 40, 3) := by decide +kernel
theorem d_Model_relative_106 : decode b_Model_relative 106 = .ok (.iconst 4, 1) := by decide +kernel
theorem d_Model_relative_107 : decode b_Model_relative 107 = .ok (.iload_n 3, 1) := by decide +kernel
theorem d_Model_relative_108 : decode b_Model_relative 108 = .ok (.imul, 1) := by decide +kernel
theorem d_Model_relative_109 : decode b_Model_relative 109 = .ok (.iload_n 2, 1) := by decide +kernel
theorem d_Model_relative_110 : decode b_Model_relative 110 = .ok (.iadd, 1) := by decide +kernel
theorem d_Model_relative_111 : decode b_Model_relative 111 = .ok (.laload, 1) := by decide +kernel
theorem d_Model_relative_112 : decode b_Model_relative 112 = .ok (.lload 4, 2) := by decide +kernel
theorem d_Model_relative_114 : decode b_Model_relative 114 = .ok (.lsub, 1) := by decide +kernel
theorem d_Model_relative_115 : decode b_Model_relative 115 = .ok (.l2i, 1) := by decide +kernel
theorem d_Model_relative_116 : decode b_Model_relative 116 = .ok (.ireturn, 1) := by decide +kernel
theorem d_Model_noNode_0 : decode b_Model_noNode 0 = .ok (.iload_n 1, 1) := by decide +kernel
theorem d_Model_noNode_1 : decode b_Model_noNode 1 = .ok (.ifCond .lt 26, 3) := by decide +kernel
theorem d_Model_noNode_4 : decode b_Model_noNode 4 = .ok (.iload_n 1, 1) := by decide +kernel
theorem d_Model_noNode_5 : decode b_Model_noNode 5 = .ok (.aload_n 0, 1) := by decide +kernel
theorem d_Model_noNode_6 : decode b_Model_noNode 6 = .ok (.invokevirtual 156, 3) := by decide +kernel
theorem d_Model_noNode_9 : decode b_Model_noNode 9 = .ok (.if_icmp .ge 18, 3) := by decide +kernel
theorem d_Model_noNode_12 : decode b_Model_noNode 12 = .ok (.iload_n 2, 1) := by decide +kernel
theorem d_Model_noNode_13 : decode b_Model_noNode 13 = .ok (.iconst 3, 1) := by decide +kernel
theorem d_Model_noNode_14 : decode b_Model_noNode 14 = .ok (.invokestatic 111, 3) := by decide +kernel
theorem d_Model_noNode_17 : decode b_Model_noNode 17 = .ok (.ifCond .ne 10, 3) := by decide +kernel
theorem d_Model_noNode_20 : decode b_Model_noNode 20 = .ok (.aload_n 0, 1) := by decide +kernel
theorem d_Model_noNode_21 : decode b_Model_noNode 21 = .ok (.invokevirtual 160, 3) := by decide +kernel
theorem d_Model_noNode_24 : decode b_Model_noNode 24 = .ok (.ifCond .ne 7, 3) := by decide +kernel
theorem d_Model_noNode_27 : decode b_Model_noNode 27 = .ok (.iconst 1, 1) := by decide +kernel
theorem d_Model_noNode_28 : decode b_Model_noNode 28 = .ok (.goto 4, 3) := by decide +kernel
theorem d_Model_noNode_31 : decode b_Model_noNode 31 = .ok (.iconst 0, 1) := by decide +kernel
theorem d_Model_noNode_32 : decode b_Model_noNode 32 = .ok (.ireturn, 1) := by decide +kernel
theorem d_Model_work_0 : decode b_Model_work 0 = .ok (.aload_n 0, 1) := by decide +kernel
theorem d_Model_work_1 : decode b_Model_work 1 = .ok (.getfield 128, 3) := by decide +kernel
theorem d_Model_work_4 : decode b_Model_work 4 = .ok (.ifCond .ne 5, 3) := by decide +kernel
theorem d_Model_work_7 : decode b_Model_work 7 = .ok (.iconst 0, 1) := by decide +kernel
theorem d_Model_work_8 : decode b_Model_work 8 = .ok (.ireturn, 1) := by decide +kernel
theorem d_Model_work_9 : decode b_Model_work 9 = .ok (.aload_n 0, 1) := by decide +kernel
theorem d_Model_work_10 : decode b_Model_work 10 = .ok (.getfield 37, 3) := by decide +kernel
theorem d_Model_work_13 : decode b_Model_work 13 = .ok (.aload_n 0, 1) := by decide +kernel
theorem d_Model_work_14 : decode b_Model_work 14 = .ok (.getfield 128, 3) := by decide +kernel
theorem d_Model_work_17 : decode b_Model_work 17 = .ok (.iconst 1, 1) := by decide +kernel
theorem d_Model_work_18 : decode b_Model_work 18 = .ok (.isub, 1) := by decide +kernel
theorem d_Model_work_19 : decode b_Model_work 19 = .ok (.iaload, 1) := by decide +kernel
theorem d_Model_work_20 : decode b_Model_work 20 = .ok (.istore_n 1, 1) := by decide +kernel
theorem d_Model_work_21 : decode b_Model_work 21 = .ok (.iload_n 1, 1) := by decide +kernel
theorem d_Model_work_22 : decode b_Model_work 22 = .ok (.aload_n 0, 1) := by decide +kernel
theorem d_Model_work_23 : decode b_Model_work 23 = .ok (.getfield 131, 3) := by decide +kernel
theorem d_Model_work_26 : decode b_Model_work 26 = .ok (.if_icmp .ge 69, 3) := by decide +kernel
theorem d_Model_work_29 : decode b_Model_work 29 = .ok (.aload_n 0, 1) := by decide +kernel
theorem d_Model_work_30 : decode b_Model_work 30 = .ok (.iload_n 1, 1) := by decide +kernel
theorem d_Model_work_31 : decode b_Model_work 31 = .ok (.invokevirtual 134, 3) := by decide +kernel
theorem d_Model_work_34 : decode b_Model_work 34 = .ok (.aload_n 0, 1) := by decide +kernel
theorem d_Model_work_35 : decode b_Model_work 35 = .ok (.aload_n 0, 1) := by decide +kernel
theorem d_Model_work_36 : decode b_Model_work 36 = .ok (.getfield 25, 3) := by decide +kernel
theorem d_Model_work_39 : decode b_Model_work 39 = .ok (.iload_n 1, 1) := by decide +kernel
theorem d_Model_work_40 : decode b_Model_work 40 = .ok (.iaload, 1) := by decide +kernel
theorem d_Model_work_41 : decode b_Model_work 41 = .ok (.invokevirtual 138, 3) := by decide +kernel
theorem d_Model_work_44 : decode b_Model_work 44 = .ok (.iconst 0, 1) := by decide +kernel
theorem d_Model_work_45 : decode b_Model_work 45 = .ok (.istore_n 2, 1) := by decide +kernel
theorem d_Model_work_46 : decode b_Model_work 46 = .ok (.iload_n 2, 1) := by decide +kernel
theorem d_Model_work_47 : decode b_Model_work 47 = .ok (.iconst 4, 1) := by decide +kernel
theorem d_Model_work_48 : decode b_Model_work 48 = .ok (.if_icmp .ge 41, 3) := by decide +kernel
theorem d_Model_work_51 : decode b_Model_work 51 = .ok (.aload_n 0, 1) := by decide +kernel
theorem d_Model_work_52 : decode b_Model_work 52 = .ok (.getfield 40, 3) := by decide +kernel
theorem d_Model_work_55 : decode b_Model_work 55 = .ok (.iconst 4, 1) := by decide +kernel
theorem d_Model_work_56 : decode b_Model_work 56 = .ok (.iload_n 1, 1) := by decide +kernel
theorem d_Model_work_57 : decode b_Model_work 57 = .ok (.imul, 1) := by decide +kernel
theorem d_Model_work_58 : decode b_Model_work 58 = .ok (.iload_n 2, 1) := by decide +kernel
theorem d_Model_work_59 : decode b_Model_work 59 = .ok (.iadd, 1) := by decide +kernel
theorem d_Model_work_60 : decode b_Model_work 60 = .ok (.aload_n 0, 1) := by decide +kernel
theorem d_Model_work_61 : decode b_Model_work 61 = .ok (.getfield 53, 3) := by decide +kernel
theorem d_Model_work_64 : decode b_Model_work 64 = .ok (.iload_n 2, 1) := by decide +kernel
theorem d_Model_work_65 : decode b_Model_work 65 = .ok (.laload, 1) := by decide +kernel
theorem d_Model_work_66 : decode b_Model_work 66 = .ok (.lastore, 1) := by decide +kernel
theorem d_Model_work_67 : decode b_Model_work 67 = .ok (.aload_n 0, 1) := by decide +kernel
theorem d_Model_work_68 : decode b_Model_work 68 = .ok (.getfield 44, 3) := by decide +kernel
theorem d_Model_work_71 : decode b_Model_work 71 = .ok (.iconst 4, 1) := by decide +kernel
theorem d_Model_work_72 : decode b_Model_work 72 = .ok (.iload_n 1, 1) := by decide +kernel
theorem d_Model_work_73 : decode b_Model_work 73 = .ok (.imul, 1) := by decide +kernel
theorem d_Model_work_74 : decode b_Model_work 74 = .ok (.iload_n 2, 1) := by decide +kernel
theorem d_Model_work_75 : decode b_Model_work 75 = .ok (.iadd, 1) := by decide +kernel
theorem d_Model_work_76 : decode b_Model_work 76 = .ok (.aload_n 0, 1) := by decide +kernel
theorem d_Model_work_77 : decode b_Model_work 77 = .ok (.getfield 56, 3) := by decide +kernel
theorem d_Model_work_80 : decode b_Model_work 80 = .ok (.iload_n 2, 1) := by decide +kernel
theorem d_Model_work_81 : decode b_Model_work 81 = .ok (.iaload, 1) := by decide +kernel
theorem d_Model_work_82 : decode b_Model_work 82 = .ok (.iastore, 1) := by decide +kernel
theorem d_Model_work_83 : decode b_Model_work 83 = .ok (.iinc 2 1, 3) := by decide +kernel
theorem d_Model_work_86 : decode b_Model_work 86 = .ok (.goto (-40), 3) := by decide +kernel
theorem d_Model_work_89 : decode b_Model_work 89 = .ok (.iinc 1 1, 3) := by decide +kernel
theorem d_Model_work_92 : decode b_Model_work 92 = .ok (.goto (-71), 3) := by decide +kernel
theorem d_Model_work_95 : decode b_Model_work 95 = .ok (.iconst 1, 1) := by decide +kernel
theorem d_Model_work_96 : decode b_Model_work 96 = .ok (.ireturn, 1) := by decide +kernel
theorem d_Model_takeKids_0 : decode b_Model_takeKids 0 = .ok (.aload_n 0, 1) := by decide +kernel
theorem d_Model_takeKids_1 : decode b_Model_takeKids 1 = .ok (.getfield 25, 3) := by decide +kernel
theorem d_Model_takeKids_4 : decode b_Model_takeKids 4 = .ok (.iload_n 1, 1) := by decide +kernel
theorem d_Model_takeKids_5 : decode b_Model_takeKids 5 = .ok (.iaload, 1) := by decide +kernel
theorem d_Model_takeKids_6 : decode b_Model_takeKids 6 = .ok (.invokestatic 120, 3) := by decide +kernel
theorem d_Model_takeKids_9 : decode b_Model_takeKids 9 = .ok (.istore_n 2, 1) := by decide +kernel
theorem d_Model_takeKids_10 : decode b_Model_takeKids 10 = .ok (.iload_n 1, 1) := by decide +kernel
theorem d_Model_takeKids_11 : decode b_Model_takeKids 11 = .ok (.iconst 1, 1) := by decide +kernel
theorem d_Model_takeKids_12 : decode b_Model_takeKids 12 = .ok (.isub, 1) := by decide +kernel
theorem d_Model_takeKids_13 : decode b_Model_takeKids 13 = .ok (.iload_n 2, 1) := by decide +kernel
theorem d_Model_takeKids_14 : decode b_Model_takeKids 14 = .ok (.iconst 1, 1) := by decide +kernel
theorem d_Model_takeKids_15 : decode b_Model_takeKids 15 = .ok (.if_icmp .le 14, 3) := by decide +kernel
theorem d_Model_takeKids_18 : decode b_Model_takeKids 18 = .ok (.aload_n 0, 1) := by decide +kernel
theorem d_Model_takeKids_19 : decode b_Model_takeKids 19 = .ok (.getfield 31, 3) := by decide +kernel
theorem d_Model_takeKids_22 : decode b_Model_takeKids 22 = .ok (.iload_n 1, 1) := by decide +kernel
theorem d_Model_takeKids_23 : decode b_Model_takeKids 23 = .ok (.iconst 1, 1) := by decide +kernel
theorem d_Model_takeKids_24 : decode b_Model_takeKids 24 = .ok (.isub, 1) := by decide +kernel
theorem d_Model_takeKids_25 : decode b_Model_takeKids 25 = .ok (.iaload, 1) := by decide +kernel
theorem d_Model_takeKids_26 : decode b_Model_takeKids 26 = .ok (.goto 4, 3) := by decide +kernel
theorem d_Model_takeKids_29 : decode b_Model_takeKids 29 = .ok (.iconst 0, 1) := by decide +kernel
theorem d_Model_takeKids_30 : decode b_Model_takeKids 30 = .ok (.isub, 1) := by decide +kernel
theorem d_Model_takeKids_31 : decode b_Model_takeKids 31 = .ok (.istore_n 3, 1) := by decide +kernel
theorem d_Model_takeKids_32 : decode b_Model_takeKids 32 = .ok (.iconst 0, 1) := by decide +kernel
theorem d_Model_takeKids_33 : decode b_Model_takeKids 33 = .ok (.istore 4, 2) := by decide +kernel
theorem d_Model_takeKids_35 : decode b_Model_takeKids 35 = .ok (.iload 4, 2) := by decide +kernel
theorem d_Model_takeKids_37 : decode b_Model_takeKids 37 = .ok (.iconst 4, 1) := by decide +kernel
theorem d_Model_takeKids_38 : decode b_Model_takeKids 38 = .ok (.if_icmp .ge 68, 3) := by decide +kernel
theorem d_Model_takeKids_41 : decode b_Model_takeKids 41 = .ok (.aload_n 0, 1) := by decide +kernel
theorem d_Model_takeKids_42 : decode b_Model_takeKids 42 = .ok (.getfield 47, 3) := by decide +kernel
theorem d_Model_takeKids_45 : decode b_Model_takeKids 45 = .ok (.iload 4, 2) := by decide +kernel
theorem d_Model_takeKids_47 : decode b_Model_takeKids 47 = .ok (.iload_n 2, 1) := by decide +kernel
theorem d_Model_takeKids_48 : decode b_Model_takeKids 48 = .ok (.ifCond .ne 9, 3) := by decide +kernel
theorem d_Model_takeKids_51 : decode b_Model_takeKids 51 = .ok (.ldc2_w 118, 3) := by decide +kernel
theorem d_Model_takeKids_54 : decode b_Model_takeKids 54 = .ok (.goto 14, 3) := by decide +kernel
theorem d_Model_takeKids_57 : decode b_Model_takeKids 57 = .ok (.aload_n 0, 1) := by decide +kernel
theorem d_Model_takeKids_58 : decode b_Model_takeKids 58 = .ok (.getfield 40, 3) := by decide +kernel
theorem d_Model_takeKids_61 : decode b_Model_takeKids 61 = .ok (.iconst 4, 1) := by decide +kernel
theorem d_Model_takeKids_62 : decode b_Model_takeKids 62 = .ok (.iload_n 3, 1) := by decide +kernel
theorem d_Model_takeKids_63 : decode b_Model_takeKids 63 = .ok (.imul, 1) := by decide +kernel
theorem d_Model_takeKids_64 : decode b_Model_takeKids 64 = .ok (.iload 4, 2) := by decide +kernel
theorem d_Model_takeKids_66 : decode b_Model_takeKids 66 = .ok (.iadd, 1) := by decide +kernel
theorem d_Model_takeKids_67 : decode b_Model_takeKids 67 = .ok (.laload, 1) := by decide +kernel
theorem d_Model_takeKids_68 : decode b_Model_takeKids 68 = .ok (.lastore, 1) := by decide +kernel
theorem d_Model_takeKids_69 : decode b_Model_takeKids 69 = .ok (.aload_n 0, 1) := by decide +kernel
theorem d_Model_takeKids_70 : decode b_Model_takeKids 70 = .ok (.getfield 50, 3) := by decide +kernel
theorem d_Model_takeKids_73 : decode b_Model_takeKids 73 = .ok (.iload 4, 2) := by decide +kernel
theorem d_Model_takeKids_75 : decode b_Model_takeKids 75 = .ok (.iload_n 2, 1) := by decide +kernel
theorem d_Model_takeKids_76 : decode b_Model_takeKids 76 = .ok (.iconst 2, 1) := by decide +kernel
theorem d_Model_takeKids_77 : decode b_Model_takeKids 77 = .ok (.if_icmp .ge 9, 3) := by decide +kernel
theorem d_Model_takeKids_80 : decode b_Model_takeKids 80 = .ok (.ldc2_w 118, 3) := by decide +kernel
theorem d_Model_takeKids_83 : decode b_Model_takeKids 83 = .ok (.goto 16, 3) := by decide +kernel
theorem d_Model_takeKids_86 : decode b_Model_takeKids 86 = .ok (.aload_n 0, 1) := by decide +kernel
theorem d_Model_takeKids_87 : decode b_Model_takeKids 87 = .ok (.getfield 40, 3) := by decide +kernel
theorem d_Model_takeKids_90 : decode b_Model_takeKids 90 = .ok (.iconst 4, 1) := by decide +kernel
theorem d_Model_takeKids_91 : decode b_Model_takeKids 91 = .ok (.iload_n 1, 1) := by decide +kernel
theorem d_Model_takeKids_92 : decode b_Model_takeKids 92 = .ok (.iconst 1, 1) := by decide +kernel
theorem d_Model_takeKids_93 : decode b_Model_takeKids 93 = .ok (.isub, 1) := by decide +kernel
theorem d_Model_takeKids_94 : decode b_Model_takeKids 94 = .ok (.imul, 1) := by decide +kernel
theorem d_Model_takeKids_95 : decode b_Model_takeKids 95 = .ok (.iload 4, 2) := by decide +kernel
theorem d_Model_takeKids_97 : decode b_Model_takeKids 97 = .ok (.iadd, 1) := by decide +kernel
theorem d_Model_takeKids_98 : decode b_Model_takeKids 98 = .ok (.laload, 1) := by decide +kernel
theorem d_Model_takeKids_99 : decode b_Model_takeKids 99 = .ok (.lastore, 1) := by decide +kernel
theorem d_Model_takeKids_100 : decode b_Model_takeKids 100 = .ok (.iinc 4 1, 3) := by decide +kernel
theorem d_Model_takeKids_103 : decode b_Model_takeKids 103 = .ok (.goto (-68), 3) := by decide +kernel
theorem d_Model_takeKids_106 : decode b_Model_takeKids 106 = .ok (.return_, 1) := by decide +kernel
theorem d_Model_choice_0 : decode b_Model_choice 0 = .ok (.aload_n 0, 1) := by decide +kernel
theorem d_Model_choice_1 : decode b_Model_choice 1 = .ok (.iload_n 1, 1) := by decide +kernel
theorem d_Model_choice_2 : decode b_Model_choice 2 = .ok (.iload_n 2, 1) := by decide +kernel
theorem d_Model_choice_3 : decode b_Model_choice 3 = .ok (.invokevirtual 163, 3) := by decide +kernel
theorem d_Model_choice_6 : decode b_Model_choice 6 = .ok (.ifCond .eq 7, 3) := by decide +kernel
theorem d_Model_choice_9 : decode b_Model_choice 9 = .ok (.iconst (-1), 1) := by decide +kernel
theorem d_Model_choice_10 : decode b_Model_choice 10 = .ok (.goto 25, 3) := by decide +kernel
theorem d_Model_choice_13 : decode b_Model_choice 13 = .ok (.aload_n 0, 1) := by decide +kernel
theorem d_Model_choice_14 : decode b_Model_choice 14 = .ok (.getfield 44, 3) := by decide +kernel
theorem d_Model_choice_17 : decode b_Model_choice 17 = .ok (.iconst 4, 1) := by decide +kernel
theorem d_Model_choice_18 : decode b_Model_choice 18 = .ok (.aload_n 0, 1) := by decide +kernel
theorem d_Model_choice_19 : decode b_Model_choice 19 = .ok (.getfield 37, 3) := by decide +kernel
theorem d_Model_choice_22 : decode b_Model_choice 22 = .ok (.aload_n 0, 1) := by decide +kernel
theorem d_Model_choice_23 : decode b_Model_choice 23 = .ok (.getfield 128, 3) := by decide +kernel
theorem d_Model_choice_26 : decode b_Model_choice 26 = .ok (.iconst 1, 1) := by decide +kernel
theorem d_Model_choice_27 : decode b_Model_choice 27 = .ok (.isub, 1) := by decide +kernel
theorem d_Model_choice_28 : decode b_Model_choice 28 = .ok (.iaload, 1) := by decide +kernel
theorem d_Model_choice_29 : decode b_Model_choice 29 = .ok (.iload_n 1, 1) := by decide +kernel
theorem d_Model_choice_30 : decode b_Model_choice 30 = .ok (.iadd, 1) := by decide +kernel
theorem d_Model_choice_31 : decode b_Model_choice 31 = .ok (.imul, 1) := by decide +kernel
theorem d_Model_choice_32 : decode b_Model_choice 32 = .ok (.iload_n 2, 1) := by decide +kernel
theorem d_Model_choice_33 : decode b_Model_choice 33 = .ok (.iadd, 1) := by decide +kernel
theorem d_Model_choice_34 : decode b_Model_choice 34 = .ok (.iaload, 1) := by decide +kernel
theorem d_Model_choice_35 : decode b_Model_choice 35 = .ok (.ireturn, 1) := by decide +kernel
theorem d_Model_cost_0 : decode b_Model_cost 0 = .ok (.iload_n 1, 1) := by decide +kernel
theorem d_Model_cost_1 : decode b_Model_cost 1 = .ok (.iconst 3, 1) := by decide +kernel
theorem d_Model_cost_2 : decode b_Model_cost 2 = .ok (.invokestatic 111, 3) := by decide +kernel
theorem d_Model_cost_5 : decode b_Model_cost 5 = .ok (.ifCond .ne 10, 3) := by decide +kernel
theorem d_Model_cost_8 : decode b_Model_cost 8 = .ok (.aload_n 0, 1) := by decide +kernel
theorem d_Model_cost_9 : decode b_Model_cost 9 = .ok (.invokevirtual 160, 3) := by decide +kernel
theorem d_Model_cost_12 : decode b_Model_cost 12 = .ok (.ifCond .ne 5, 3) := by decide +kernel
theorem d_Model_cost_15 : decode b_Model_cost 15 = .ok (.iconst (-1), 1) := by decide +kernel
theorem d_Model_cost_16 : decode b_Model_cost 16 = .ok (.ireturn, 1) := by decide +kernel
theorem d_Model_cost_17 : decode b_Model_cost 17 = .ok (.aload_n 0, 1) := by decide +kernel
theorem d_Model_cost_18 : decode b_Model_cost 18 = .ok (.getfield 40, 3) := by decide +kernel
theorem d_Model_cost_21 : decode b_Model_cost 21 = .ok (.iconst 4, 1) := by decide +kernel
theorem d_Model_cost_22 : decode b_Model_cost 22 = .ok (.aload_n 0, 1) := by decide +kernel
theorem d_Model_cost_23 : decode b_Model_cost 23 = .ok (.getfield 131, 3) := by decide +kernel
theorem d_Model_cost_26 : decode b_Model_cost 26 = .ok (.iconst 1, 1) := by decide +kernel
theorem d_Model_cost_27 : decode b_Model_cost 27 = .ok (.isub, 1) := by decide +kernel
theorem d_Model_cost_28 : decode b_Model_cost 28 = .ok (.imul, 1) := by decide +kernel
theorem d_Model_cost_29 : decode b_Model_cost 29 = .ok (.iload_n 1, 1) := by decide +kernel
theorem d_Model_cost_30 : decode b_Model_cost 30 = .ok (.iadd, 1) := by decide +kernel
theorem d_Model_cost_31 : decode b_Model_cost 31 = .ok (.laload, 1) := by decide +kernel
theorem d_Model_cost_32 : decode b_Model_cost 32 = .ok (.lstore_n 2, 1) := by decide +kernel
theorem d_Model_cost_33 : decode b_Model_cost 33 = .ok (.lload_n 2, 1) := by decide +kernel
theorem d_Model_cost_34 : decode b_Model_cost 34 = .ok (.ldc2_w 118, 3) := by decide +kernel
theorem d_Model_cost_37 : decode b_Model_cost 37 = .ok (.lcmp, 1) := by decide +kernel
theorem d_Model_cost_38 : decode b_Model_cost 38 = .ok (.ifCond .ne 8, 3) := by decide +kernel
theorem d_Model_cost_41 : decode b_Model_cost 41 = .ok (.bipush (-3), 2) := by decide +kernel
theorem d_Model_cost_43 : decode b_Model_cost 43 = .ok (.goto 5, 3) := by decide +kernel
theorem d_Model_cost_46 : decode b_Model_cost 46 = .ok (.lload_n 2, 1) := by decide +kernel
theorem d_Model_cost_47 : decode b_Model_cost 47 = .ok (.l2i, 1) := by decide +kernel
theorem d_Model_cost_48 : decode b_Model_cost 48 = .ok (.ireturn, 1) := by decide +kernel
theorem d_Model_registers_0 : decode b_Model_registers 0 = .ok (.iload_n 1, 1) := by decide +kernel
theorem d_Model_registers_1 : decode b_Model_registers 1 = .ok (.iconst 1, 1) := by decide +kernel
theorem d_Model_registers_2 : decode b_Model_registers 2 = .ok (.if_icmp .lt 8, 3) := by decide +kernel
theorem d_Model_registers_5 : decode b_Model_registers 5 = .ok (.iload_n 1, 1) := by decide +kernel
theorem d_Model_registers_6 : decode b_Model_registers 6 = .ok (.iconst 4, 1) := by decide +kernel
theorem d_Model_registers_7 : decode b_Model_registers 7 = .ok (.if_icmp .le 5, 3) := by decide +kernel
theorem d_Model_registers_10 : decode b_Model_registers 10 = .ok (.iconst 0, 1) := by decide +kernel
theorem d_Model_registers_11 : decode b_Model_registers 11 = .ok (.ireturn, 1) := by decide +kernel
theorem d_Model_registers_12 : decode b_Model_registers 12 = .ok (.aload_n 0, 1) := by decide +kernel
theorem d_Model_registers_13 : decode b_Model_registers 13 = .ok (.iload_n 1, 1) := by decide +kernel
theorem d_Model_registers_14 : decode b_Model_registers 14 = .ok (.putfield 65, 3) := by decide +kernel
theorem d_Model_registers_17 : decode b_Model_registers 17 = .ok (.iconst 1, 1) := by decide +kernel
theorem d_Model_registers_18 : decode b_Model_registers 18 = .ok (.ireturn, 1) := by decide +kernel
theorem d_Model_cover_0 : decode b_Model_cover 0 = .ok (.aload_n 0, 1) := by decide +kernel
theorem d_Model_cover_1 : decode b_Model_cover 1 = .ok (.invokevirtual 160, 3) := by decide +kernel
theorem d_Model_cover_4 : decode b_Model_cover 4 = .ok (.ifCond .ne 5, 3) := by decide +kernel
theorem d_Model_cover_7 : decode b_Model_cover 7 = .ok (.iconst (-1), 1) := by decide +kernel
theorem d_Model_cover_8 : decode b_Model_cover 8 = .ok (.ireturn, 1) := by decide +kernel
theorem d_Model_cover_9 : decode b_Model_cover 9 = .ok (.aload_n 0, 1) := by decide +kernel
theorem d_Model_cover_10 : decode b_Model_cover 10 = .ok (.getfield 40, 3) := by decide +kernel
theorem d_Model_cover_13 : decode b_Model_cover 13 = .ok (.iconst 4, 1) := by decide +kernel
theorem d_Model_cover_14 : decode b_Model_cover 14 = .ok (.aload_n 0, 1) := by decide +kernel
theorem d_Model_cover_15 : decode b_Model_cover 15 = .ok (.getfield 131, 3) := by decide +kernel
theorem d_Model_cover_18 : decode b_Model_cover 18 = .ok (.iconst 1, 1) := by decide +kernel
theorem d_Model_cover_19 : decode b_Model_cover 19 = .ok (.isub, 1) := by decide +kernel
theorem d_Model_cover_20 : decode b_Model_cover 20 = .ok (.imul, 1) := by decide +kernel
theorem d_Model_cover_21 : decode b_Model_cover 21 = .ok (.laload, 1) := by decide +kernel
theorem d_Model_cover_22 : decode b_Model_cover 22 = .ok (.ldc2_w 118, 3) := by decide +kernel
theorem d_Model_cover_25 : decode b_Model_cover 25 = .ok (.lcmp, 1) := by decide +kernel
theorem d_Model_cover_26 : decode b_Model_cover 26 = .ok (.ifCond .ne 6, 3) := by decide +kernel
theorem d_Model_cover_29 : decode b_Model_cover 29 = .ok (.bipush (-3), 2) := by decide +kernel
theorem d_Model_cover_31 : decode b_Model_cover 31 = .ok (.ireturn, 1) := by decide +kernel
theorem d_Model_cover_32 : decode b_Model_cover 32 = .ok (.aload_n 0, 1) := by decide +kernel
theorem d_Model_cover_33 : decode b_Model_cover 33 = .ok (.getfield 37, 3) := by decide +kernel
theorem d_Model_cover_36 : decode b_Model_cover 36 = .ok (.aload_n 0, 1) := by decide +kernel
theorem d_Model_cover_37 : decode b_Model_cover 37 = .ok (.getfield 128, 3) := by decide +kernel
theorem d_Model_cover_40 : decode b_Model_cover 40 = .ok (.iconst 1, 1) := by decide +kernel
theorem d_Model_cover_41 : decode b_Model_cover 41 = .ok (.isub, 1) := by decide +kernel
theorem d_Model_cover_42 : decode b_Model_cover 42 = .ok (.iaload, 1) := by decide +kernel
theorem d_Model_cover_43 : decode b_Model_cover 43 = .ok (.istore_n 1, 1) := by decide +kernel
theorem d_Model_cover_44 : decode b_Model_cover 44 = .ok (.aload_n 0, 1) := by decide +kernel
theorem d_Model_cover_45 : decode b_Model_cover 45 = .ok (.iload_n 1, 1) := by decide +kernel
theorem d_Model_cover_46 : decode b_Model_cover 46 = .ok (.invokevirtual 179, 3) := by decide +kernel
theorem d_Model_cover_49 : decode b_Model_cover 49 = .ok (.aload_n 0, 1) := by decide +kernel
theorem d_Model_cover_50 : decode b_Model_cover 50 = .ok (.iconst 0, 1) := by decide +kernel
theorem d_Model_cover_51 : decode b_Model_cover 51 = .ok (.putfield 166, 3) := by decide +kernel
theorem d_Model_cover_54 : decode b_Model_cover 54 = .ok (.aload_n 0, 1) := by decide +kernel
theorem d_Model_cover_55 : decode b_Model_cover 55 = .ok (.iconst 0, 1) := by decide +kernel
theorem d_Model_cover_56 : decode b_Model_cover 56 = .ok (.putfield 176, 3) := by decide +kernel
theorem d_Model_cover_59 : decode b_Model_cover 59 = .ok (.iload_n 1, 1) := by decide +kernel
theorem d_Model_cover_60 : decode b_Model_cover 60 = .ok (.istore_n 2, 1) := by decide +kernel
theorem d_Model_cover_61 : decode b_Model_cover 61 = .ok (.iload_n 2, 1) := by decide +kernel
theorem d_Model_cover_62 : decode b_Model_cover 62 = .ok (.aload_n 0, 1) := by decide +kernel
theorem d_Model_cover_63 : decode b_Model_cover 63 = .ok (.getfield 131, 3) := by decide +kernel
theorem d_Model_cover_66 : decode b_Model_cover 66 = .ok (.if_icmp .ge 17, 3) := by decide +kernel
theorem d_Model_cover_69 : decode b_Model_cover 69 = .ok (.aload_n 0, 1) := by decide +kernel
theorem d_Model_cover_70 : decode b_Model_cover 70 = .ok (.iload_n 2, 1) := by decide +kernel
theorem d_Model_cover_71 : decode b_Model_cover 71 = .ok (.iload_n 2, 1) := by decide +kernel
theorem d_Model_cover_72 : decode b_Model_cover 72 = .ok (.iload_n 1, 1) := by decide +kernel
theorem d_Model_cover_73 : decode b_Model_cover 73 = .ok (.isub, 1) := by decide +kernel
theorem d_Model_cover_74 : decode b_Model_cover 74 = .ok (.invokevirtual 182, 3) := by decide +kernel
theorem d_Model_cover_77 : decode b_Model_cover 77 = .ok (.iinc 2 1, 3) := by decide +kernel
theorem d_Model_cover_80 : decode b_Model_cover 80 = .ok (.goto (-19), 3) := by decide +kernel
theorem d_Model_cover_83 : decode b_Model_cover 83 = .ok (.iconst 0, 1) := by decide +kernel
theorem d_Model_cover_84 : decode b_Model_cover 84 = .ok (.istore_n 2, 1) := by decide +kernel
theorem d_Model_cover_85 : decode b_Model_cover 85 = .ok (.iload_n 2, 1) := by decide +kernel
theorem d_Model_cover_86 : decode b_Model_cover 86 = .ok (.aload_n 0, 1) := by decide +kernel
theorem d_Model_cover_87 : decode b_Model_cover 87 = .ok (.getfield 166, 3) := by decide +kernel
theorem d_Model_cover_90 : decode b_Model_cover 90 = .ok (.if_icmp .ge 14, 3) := by decide +kernel
theorem d_Model_cover_93 : decode b_Model_cover 93 = .ok (.aload_n 0, 1) := by decide +kernel
theorem d_Model_cover_94 : decode b_Model_cover 94 = .ok (.iload_n 2, 1) := by decide +kernel
theorem d_Model_cover_95 : decode b_Model_cover 95 = .ok (.invokevirtual 186, 3) := by decide +kernel
theorem d_Model_cover_98 : decode b_Model_cover 98 = .ok (.iinc 2 1, 3) := by decide +kernel
theorem d_Model_cover_101 : decode b_Model_cover 101 = .ok (.goto (-16), 3) := by decide +kernel
theorem d_Model_cover_104 : decode b_Model_cover 104 = .ok (.aload_n 0, 1) := by decide +kernel
theorem d_Model_cover_105 : decode b_Model_cover 105 = .ok (.getfield 166, 3) := by decide +kernel
theorem d_Model_cover_108 : decode b_Model_cover 108 = .ok (.ireturn, 1) := by decide +kernel
theorem d_Model_want_0 : decode b_Model_want 0 = .ok (.aload_n 0, 1) := by decide +kernel
theorem d_Model_want_1 : decode b_Model_want 1 = .ok (.getfield 96, 3) := by decide +kernel
theorem d_Model_want_4 : decode b_Model_want 4 = .ok (.aload_n 0, 1) := by decide +kernel
theorem d_Model_want_5 : decode b_Model_want 5 = .ok (.getfield 131, 3) := by decide +kernel
theorem d_Model_want_8 : decode b_Model_want 8 = .ok (.iconst 1, 1) := by decide +kernel
theorem d_Model_want_9 : decode b_Model_want 9 = .ok (.isub, 1) := by decide +kernel
theorem d_Model_want_10 : decode b_Model_want 10 = .ok (.iconst 0, 1) := by decide +kernel
theorem d_Model_want_11 : decode b_Model_want 11 = .ok (.iastore, 1) := by decide +kernel
theorem d_Model_want_12 : decode b_Model_want 12 = .ok (.aload_n 0, 1) := by decide +kernel
theorem d_Model_want_13 : decode b_Model_want 13 = .ok (.getfield 131, 3) := by decide +kernel
theorem d_Model_want_16 : decode b_Model_want 16 = .ok (.iconst 1, 1) := by decide +kernel
theorem d_Model_want_17 : decode b_Model_want 17 = .ok (.isub, 1) := by decide +kernel
theorem d_Model_want_18 : decode b_Model_want 18 = .ok (.istore_n 2, 1) := by decide +kernel
theorem d_Model_want_19 : decode b_Model_want 19 = .ok (.iload_n 2, 1) := by decide +kernel
theorem d_Model_want_20 : decode b_Model_want 20 = .ok (.iload_n 1, 1) := by decide +kernel
theorem d_Model_want_21 : decode b_Model_want 21 = .ok (.if_icmp .lt 128, 3) := by decide +kernel
theorem d_Model_want_24 : decode b_Model_want 24 = .ok (.aload_n 0, 1) := by decide +kernel
theorem d_Model_want_25 : decode b_Model_want 25 = .ok (.getfield 44, 3) := by decide +kernel
theorem d_Model_want_28 : decode b_Model_want 28 = .ok (.iconst 4, 1) := by decide +kernel
theorem d_Model_want_29 : decode b_Model_want 29 = .ok (.iload_n 2, 1) := by decide +kernel
theorem d_Model_want_30 : decode b_Model_want 30 = .ok (.imul, 1) := by decide +kernel
theorem d_Model_want_31 : decode b_Model_want 31 = .ok (.aload_n 0, 1) := by decide +kernel
theorem d_Model_want_32 : decode b_Model_want 32 = .ok (.getfield 96, 3) := by decide +kernel
theorem d_Model_want_35 : decode b_Model_want 35 = .ok (.iload_n 2, 1) := by decide +kernel
theorem d_Model_want_36 : decode b_Model_want 36 = .ok (.iaload, 1) := by decide +kernel
theorem d_Model_want_37 : decode b_Model_want 37 = .ok (.iadd, 1) := by decide +kernel
theorem d_Model_want_38 : decode b_Model_want 38 = .ok (.iaload, 1) := by decide +kernel
theorem d_Model_want_39 : decode b_Model_want 39 = .ok (.istore_n 3, 1) := by decide +kernel
theorem d_Model_want_40 : decode b_Model_want 40 = .ok (.aload_n 0, 1) := by decide +kernel
theorem d_Model_want_41 : decode b_Model_want 41 = .ok (.getfield 13, 3) := by decide +kernel
theorem d_Model_want_44 : decode b_Model_want 44 = .ok (.iload_n 3, 1) := by decide +kernel
theorem d_Model_want_45 : decode b_Model_want 45 = .ok (.iaload, 1) := by decide +kernel
theorem d_Model_want_46 : decode b_Model_want 46 = .ok (.bipush 8, 2) := by decide +kernel
theorem d_Model_want_48 : decode b_Model_want 48 = .ok (.if_icmp .ne 22, 3) := by decide +kernel
theorem d_Model_want_51 : decode b_Model_want 51 = .ok (.aload_n 0, 1) := by decide +kernel
theorem d_Model_want_52 : decode b_Model_want 52 = .ok (.getfield 44, 3) := by decide +kernel
theorem d_Model_want_55 : decode b_Model_want 55 = .ok (.iconst 4, 1) := by decide +kernel
theorem d_Model_want_56 : decode b_Model_want 56 = .ok (.iload_n 2, 1) := by decide +kernel
theorem d_Model_want_57 : decode b_Model_want 57 = .ok (.imul, 1) := by decide +kernel
theorem d_Model_want_58 : decode b_Model_want 58 = .ok (.aload_n 0, 1) := by decide +kernel
theorem d_Model_want_59 : decode b_Model_want 59 = .ok (.getfield 16, 3) := by decide +kernel
theorem d_Model_want_62 : decode b_Model_want 62 = .ok (.iload_n 3, 1) := by decide +kernel
theorem d_Model_want_63 : decode b_Model_want 63 = .ok (.iaload, 1) := by decide +kernel
theorem d_Model_want_64 : decode b_Model_want 64 = .ok (.iadd, 1) := by decide +kernel
theorem d_Model_want_65 : decode b_Model_want 65 = .ok (.iaload, 1) := by decide +kernel
theorem d_Model_want_66 : decode b_Model_want 66 = .ok (.istore_n 3, 1) := by decide +kernel
theorem d_Model_want_67 : decode b_Model_want 67 = .ok (.goto (-27), 3) := by decide +kernel
theorem d_Model_want_70 : decode b_Model_want 70 = .ok (.aload_n 0, 1) := by decide +kernel
theorem d_Model_want_71 : decode b_Model_want 71 = .ok (.getfield 25, 3) := by decide +kernel
theorem d_Model_want_74 : decode b_Model_want 74 = .ok (.iload_n 2, 1) := by decide +kernel
theorem d_Model_want_75 : decode b_Model_want 75 = .ok (.iaload, 1) := by decide +kernel
theorem d_Model_want_76 : decode b_Model_want 76 = .ok (.invokestatic 120, 3) := by decide +kernel
theorem d_Model_want_79 : decode b_Model_want 79 = .ok (.istore 4, 2) := by decide +kernel
theorem d_Model_want_81 : decode b_Model_want 81 = .ok (.iload_n 2, 1) := by decide +kernel
theorem d_Model_want_82 : decode b_Model_want 82 = .ok (.iconst 1, 1) := by decide +kernel
theorem d_Model_want_83 : decode b_Model_want 83 = .ok (.isub, 1) := by decide +kernel
theorem d_Model_want_84 : decode b_Model_want 84 = .ok (.iload 4, 2) := by decide +kernel
theorem d_Model_want_86 : decode b_Model_want 86 = .ok (.iconst 1, 1) := by decide +kernel
theorem d_Model_want_87 : decode b_Model_want 87 = .ok (.if_icmp .le 14, 3) := by decide +kernel
theorem d_Model_want_90 : decode b_Model_want 90 = .ok (.aload_n 0, 1) := by decide +kernel
theorem d_Model_want_91 : decode b_Model_want 91 = .ok (.getfield 31, 3) := by decide +kernel
theorem d_Model_want_94 : decode b_Model_want 94 = .ok (.iload_n 2, 1) := by decide +kernel
theorem d_Model_want_95 : decode b_Model_want 95 = .ok (.iconst 1, 1) := by decide +kernel
theorem d_Model_want_96 : decode b_Model_want 96 = .ok (.isub, 1) := by decide +kernel
theorem d_Model_want_97 : decode b_Model_want 97 = .ok (.iaload, 1) := by decide +kernel
theorem d_Model_want_98 : decode b_Model_want 98 = .ok (.goto 4, 3) := by decide +kernel
theorem d_Model_want_101 : decode b_Model_want 101 = .ok (.iconst 0, 1) := by decide +kernel
theorem d_Model_want_102 : decode b_Model_want 102 = .ok (.isub, 1) := by decide +kernel
theorem d_Model_want_103 : decode b_Model_want 103 = .ok (.istore 5, 2) := by decide +kernel
theorem d_Model_want_105 : decode b_Model_want 105 = .ok (.iload 4, 2) := by decide +kernel
theorem d_Model_want_107 : decode b_Model_want 107 = .ok (.ifCond .le 16, 3) := by decide +kernel
theorem d_Model_want_110 : decode b_Model_want 110 = .ok (.aload_n 0, 1) := by decide +kernel
theorem d_Model_want_111 : decode b_Model_want 111 = .ok (.getfield 96, 3) := by decide +kernel
theorem d_Model_want_114 : decode b_Model_want 114 = .ok (.iload 5, 2) := by decide +kernel
theorem d_Model_want_116 : decode b_Model_want 116 = .ok (.aload_n 0, 1) := by decide +kernel
theorem d_Model_want_117 : decode b_Model_want 117 = .ok (.getfield 16, 3) := by decide +kernel
theorem d_Model_want_120 : decode b_Model_want 120 = .ok (.iload_n 3, 1) := by decide +kernel
theorem d_Model_want_121 : decode b_Model_want 121 = .ok (.iaload, 1) := by decide +kernel
theorem d_Model_want_122 : decode b_Model_want 122 = .ok (.iastore, 1) := by decide +kernel
theorem d_Model_want_123 : decode b_Model_want 123 = .ok (.iload 4, 2) := by decide +kernel
theorem d_Model_want_125 : decode b_Model_want 125 = .ok (.iconst 1, 1) := by decide +kernel
theorem d_Model_want_126 : decode b_Model_want 126 = .ok (.if_icmp .le 17, 3) := by decide +kernel
theorem d_Model_want_129 : decode b_Model_want 129 = .ok (.aload_n 0, 1) := by decide +kernel
theorem d_Model_want_130 : decode b_Model_want 130 = .ok (.getfield 96, 3) := by decide +kernel
theorem d_Model_want_133 : decode b_Model_want 133 = .ok (.iload_n 2, 1) := by decide +kernel
theorem d_Model_want_134 : decode b_Model_want 134 = .ok (.iconst 1, 1) := by decide +kernel
theorem d_Model_want_135 : decode b_Model_want 135 = .ok (.isub, 1) := by decide +kernel
theorem d_Model_want_136 : decode b_Model_want 136 = .ok (.aload_n 0, 1) := by decide +kernel
theorem d_Model_want_137 : decode b_Model_want 137 = .ok (.getfield 19, 3) := by decide +kernel
theorem d_Model_want_140 : decode b_Model_want 140 = .ok (.iload_n 3, 1) := by decide +kernel
theorem d_Model_want_141 : decode b_Model_want 141 = .ok (.iaload, 1) := by decide +kernel
theorem d_Model_want_142 : decode b_Model_want 142 = .ok (.iastore, 1) := by decide +kernel
theorem d_Model_want_143 : decode b_Model_want 143 = .ok (.iinc 2 (-1), 3) := by decide +kernel
theorem d_Model_want_146 : decode b_Model_want 146 = .ok (.goto (-127), 3) := by decide +kernel
theorem d_Model_want_149 : decode b_Model_want 149 = .ok (.return_, 1) := by decide +kernel
theorem d_Model_emit_0 : decode b_Model_emit 0 = .ok (.iconst 0, 1) := by decide +kernel
theorem d_Model_emit_1 : decode b_Model_emit 1 = .ok (.istore_n 3, 1) := by decide +kernel
theorem d_Model_emit_2 : decode b_Model_emit 2 = .ok (.aload_n 0, 1) := by decide +kernel
theorem d_Model_emit_3 : decode b_Model_emit 3 = .ok (.getfield 44, 3) := by decide +kernel
theorem d_Model_emit_6 : decode b_Model_emit 6 = .ok (.iconst 4, 1) := by decide +kernel
theorem d_Model_emit_7 : decode b_Model_emit 7 = .ok (.iload_n 1, 1) := by decide +kernel
theorem d_Model_emit_8 : decode b_Model_emit 8 = .ok (.imul, 1) := by decide +kernel
theorem d_Model_emit_9 : decode b_Model_emit 9 = .ok (.aload_n 0, 1) := by decide +kernel
theorem d_Model_emit_10 : decode b_Model_emit 10 = .ok (.getfield 96, 3) := by decide +kernel
theorem d_Model_emit_13 : decode b_Model_emit 13 = .ok (.iload_n 1, 1) := by decide +kernel
theorem d_Model_emit_14 : decode b_Model_emit 14 = .ok (.iaload, 1) := by decide +kernel
theorem d_Model_emit_15 : decode b_Model_emit 15 = .ok (.iadd, 1) := by decide +kernel
theorem d_Model_emit_16 : decode b_Model_emit 16 = .ok (.iaload, 1) := by decide +kernel
theorem d_Model_emit_17 : decode b_Model_emit 17 = .ok (.istore 4, 2) := by decide +kernel
theorem d_Model_emit_19 : decode b_Model_emit 19 = .ok (.aload_n 0, 1) := by decide +kernel
theorem d_Model_emit_20 : decode b_Model_emit 20 = .ok (.getfield 13, 3) := by decide +kernel
theorem d_Model_emit_23 : decode b_Model_emit 23 = .ok (.iload 4, 2) := by decide +kernel
theorem d_Model_emit_25 : decode b_Model_emit 25 = .ok (.iaload, 1) := by decide +kernel
theorem d_Model_emit_26 : decode b_Model_emit 26 = .ok (.bipush 8, 2) := by decide +kernel
theorem d_Model_emit_28 : decode b_Model_emit 28 = .ok (.if_icmp .ne 35, 3) := by decide +kernel
theorem d_Model_emit_31 : decode b_Model_emit 31 = .ok (.aload_n 0, 1) := by decide +kernel
theorem d_Model_emit_32 : decode b_Model_emit 32 = .ok (.getfield 102, 3) := by decide +kernel
theorem d_Model_emit_35 : decode b_Model_emit 35 = .ok (.iload_n 3, 1) := by decide +kernel
theorem d_Model_emit_36 : decode b_Model_emit 36 = .ok (.iload 4, 2) := by decide +kernel
theorem d_Model_emit_38 : decode b_Model_emit 38 = .ok (.iastore, 1) := by decide +kernel
theorem d_Model_emit_39 : decode b_Model_emit 39 = .ok (.iinc 3 1, 3) := by decide +kernel
theorem d_Model_emit_42 : decode b_Model_emit 42 = .ok (.aload_n 0, 1) := by decide +kernel
theorem d_Model_emit_43 : decode b_Model_emit 43 = .ok (.getfield 44, 3) := by decide +kernel
theorem d_Model_emit_46 : decode b_Model_emit 46 = .ok (.iconst 4, 1) := by decide +kernel
theorem d_Model_emit_47 : decode b_Model_emit 47 = .ok (.iload_n 1, 1) := by decide +kernel
theorem d_Model_emit_48 : decode b_Model_emit 48 = .ok (.imul, 1) := by decide +kernel
theorem d_Model_emit_49 : decode b_Model_emit 49 = .ok (.aload_n 0, 1) := by decide +kernel
theorem d_Model_emit_50 : decode b_Model_emit 50 = .ok (.getfield 16, 3) := by decide +kernel
theorem d_Model_emit_53 : decode b_Model_emit 53 = .ok (.iload 4, 2) := by decide +kernel
theorem d_Model_emit_55 : decode b_Model_emit 55 = .ok (.iaload, 1) := by decide +kernel
theorem d_Model_emit_56 : decode b_Model_emit 56 = .ok (.iadd, 1) := by decide +kernel
theorem d_Model_emit_57 : decode b_Model_emit 57 = .ok (.iaload, 1) := by decide +kernel
theorem d_Model_emit_58 : decode b_Model_emit 58 = .ok (.istore 4, 2) := by decide +kernel
theorem d_Model_emit_60 : decode b_Model_emit 60 = .ok (.goto (-41), 3) := by decide +kernel
theorem d_Model_emit_63 : decode b_Model_emit 63 = .ok (.aload_n 0, 1) := by decide +kernel
theorem d_Model_emit_64 : decode b_Model_emit 64 = .ok (.getfield 25, 3) := by decide +kernel
theorem d_Model_emit_67 : decode b_Model_emit 67 = .ok (.iload_n 1, 1) := by decide +kernel
theorem d_Model_emit_68 : decode b_Model_emit 68 = .ok (.iaload, 1) := by decide +kernel
theorem d_Model_emit_69 : decode b_Model_emit 69 = .ok (.invokestatic 120, 3) := by decide +kernel
theorem d_Model_emit_72 : decode b_Model_emit 72 = .ok (.istore 5, 2) := by decide +kernel
theorem d_Model_emit_74 : decode b_Model_emit 74 = .ok (.iload_n 1, 1) := by decide +kernel
theorem d_Model_emit_75 : decode b_Model_emit 75 = .ok (.iconst 1, 1) := by decide +kernel
theorem d_Model_emit_76 : decode b_Model_emit 76 = .ok (.isub, 1) := by decide +kernel
theorem d_Model_emit_77 : decode b_Model_emit 77 = .ok (.iload 5, 2) := by decide +kernel
theorem d_Model_emit_79 : decode b_Model_emit 79 = .ok (.iconst 1, 1) := by decide +kernel
theorem d_Model_emit_80 : decode b_Model_emit 80 = .ok (.if_icmp .le 14, 3) := by decide +kernel
theorem d_Model_emit_83 : decode b_Model_emit 83 = .ok (.aload_n 0, 1) := by decide +kernel
theorem d_Model_emit_84 : decode b_Model_emit 84 = .ok (.getfield 31, 3) := by decide +kernel
theorem d_Model_emit_87 : decode b_Model_emit 87 = .ok (.iload_n 1, 1) := by decide +kernel
theorem d_Model_emit_88 : decode b_Model_emit 88 = .ok (.iconst 1, 1) := by decide +kernel
theorem d_Model_emit_89 : decode b_Model_emit 89 = .ok (.isub, 1) := by decide +kernel
theorem d_Model_emit_90 : decode b_Model_emit 90 = .ok (.iaload, 1) := by decide +kernel
theorem d_Model_emit_91 : decode b_Model_emit 91 = .ok (.goto 4, 3) := by decide +kernel
theorem d_Model_emit_94 : decode b_Model_emit 94 = .ok (.iconst 0, 1) := by decide +kernel
theorem d_Model_emit_95 : decode b_Model_emit 95 = .ok (.isub, 1) := by decide +kernel
theorem d_Model_emit_96 : decode b_Model_emit 96 = .ok (.istore 6, 2) := by decide +kernel
theorem d_Model_emit_98 : decode b_Model_emit 98 = .ok (.aload_n 0, 1) := by decide +kernel
theorem d_Model_emit_99 : decode b_Model_emit 99 = .ok (.getfield 78, 3) := by decide +kernel
theorem d_Model_emit_102 : decode b_Model_emit 102 = .ok (.aload_n 0, 1) := by decide +kernel
theorem d_Model_emit_103 : decode b_Model_emit 103 = .ok (.getfield 166, 3) := by decide +kernel
theorem d_Model_emit_106 : decode b_Model_emit 106 = .ok (.aload_n 0, 1) := by decide +kernel
theorem d_Model_emit_107 : decode b_Model_emit 107 = .ok (.getfield 28, 3) := by decide +kernel
theorem d_Model_emit_110 : decode b_Model_emit 110 = .ok (.iload_n 1, 1) := by decide +kernel
theorem d_Model_emit_111 : decode b_Model_emit 111 = .ok (.iaload, 1) := by decide +kernel
theorem d_Model_emit_112 : decode b_Model_emit 112 = .ok (.iastore, 1) := by decide +kernel
theorem d_Model_emit_113 : decode b_Model_emit 113 = .ok (.aload_n 0, 1) := by decide +kernel
theorem d_Model_emit_114 : decode b_Model_emit 114 = .ok (.iload 4, 2) := by decide +kernel
theorem d_Model_emit_116 : decode b_Model_emit 116 = .ok (.iload_n 2, 1) := by decide +kernel
theorem d_Model_emit_117 : decode b_Model_emit 117 = .ok (.aload_n 0, 1) := by decide +kernel
theorem d_Model_emit_118 : decode b_Model_emit 118 = .ok (.getfield 25, 3) := by decide +kernel
theorem d_Model_emit_121 : decode b_Model_emit 121 = .ok (.iload_n 1, 1) := by decide +kernel
theorem d_Model_emit_122 : decode b_Model_emit 122 = .ok (.iaload, 1) := by decide +kernel
theorem d_Model_emit_123 : decode b_Model_emit 123 = .ok (.iload 5, 2) := by decide +kernel
theorem d_Model_emit_125 : decode b_Model_emit 125 = .ok (.ifCond .le 13, 3) := by decide +kernel
theorem d_Model_emit_128 : decode b_Model_emit 128 = .ok (.aload_n 0, 1) := by decide +kernel
theorem d_Model_emit_129 : decode b_Model_emit 129 = .ok (.getfield 99, 3) := by decide +kernel
theorem d_Model_emit_132 : decode b_Model_emit 132 = .ok (.iload 6, 2) := by decide +kernel
theorem d_Model_emit_134 : decode b_Model_emit 134 = .ok (.iaload, 1) := by decide +kernel
theorem d_Model_emit_135 : decode b_Model_emit 135 = .ok (.goto 5, 3) := by decide +kernel
theorem d_Model_emit_138 : decode b_Model_emit 138 = .ok (.bipush (-3), 2) := by decide +kernel
theorem d_Model_emit_140 : decode b_Model_emit 140 = .ok (.iload 5, 2) := by decide +kernel
theorem d_Model_emit_142 : decode b_Model_emit 142 = .ok (.iconst 1, 1) := by decide +kernel
theorem d_Model_emit_143 : decode b_Model_emit 143 = .ok (.if_icmp .le 14, 3) := by decide +kernel
theorem d_Model_emit_146 : decode b_Model_emit 146 = .ok (.aload_n 0, 1) := by decide +kernel
theorem d_Model_emit_147 : decode b_Model_emit 147 = .ok (.getfield 99, 3) := by decide +kernel
theorem d_Model_emit_150 : decode b_Model_emit 150 = .ok (.iload_n 1, 1) := by decide +kernel
theorem d_Model_emit_151 : decode b_Model_emit 151 = .ok (.iconst 1, 1) := by decide +kernel
theorem d_Model_emit_152 : decode b_Model_emit 152 = .ok (.isub, 1) := by decide +kernel
theorem d_Model_emit_153 : decode b_Model_emit 153 = .ok (.iaload, 1) := by decide +kernel
theorem d_Model_emit_154 : decode b_Model_emit 154 = .ok (.goto 5, 3) := by decide +kernel
theorem d_Model_emit_157 : decode b_Model_emit 157 = .ok (.bipush (-3), 2) := by decide +kernel
theorem d_Model_emit_159 : decode b_Model_emit 159 = .ok (.invokevirtual 169, 3) := by decide +kernel
theorem d_Model_emit_162 : decode b_Model_emit 162 = .ok (.iload_n 3, 1) := by decide +kernel
theorem d_Model_emit_163 : decode b_Model_emit 163 = .ok (.iconst 1, 1) := by decide +kernel
theorem d_Model_emit_164 : decode b_Model_emit 164 = .ok (.isub, 1) := by decide +kernel
theorem d_Model_emit_165 : decode b_Model_emit 165 = .ok (.istore 7, 2) := by decide +kernel
theorem d_Model_emit_167 : decode b_Model_emit 167 = .ok (.iload 7, 2) := by decide +kernel
theorem d_Model_emit_169 : decode b_Model_emit 169 = .ok (.ifCond .lt 41, 3) := by decide +kernel
theorem d_Model_emit_172 : decode b_Model_emit 172 = .ok (.aload_n 0, 1) := by decide +kernel
theorem d_Model_emit_173 : decode b_Model_emit 173 = .ok (.getfield 78, 3) := by decide +kernel
theorem d_Model_emit_176 : decode b_Model_emit 176 = .ok (.aload_n 0, 1) := by decide +kernel
theorem d_Model_emit_177 : decode b_Model_emit 177 = .ok (.getfield 166, 3) := by decide +kernel
theorem d_Model_emit_180 : decode b_Model_emit 180 = .ok (.iconst 0, 1) := by decide +kernel
theorem d_Model_emit_181 : decode b_Model_emit 181 = .ok (.iastore, 1) := by decide +kernel
theorem d_Model_emit_182 : decode b_Model_emit 182 = .ok (.aload_n 0, 1) := by decide +kernel
theorem d_Model_emit_183 : decode b_Model_emit 183 = .ok (.aload_n 0, 1) := by decide +kernel
theorem d_Model_emit_184 : decode b_Model_emit 184 = .ok (.getfield 102, 3) := by decide +kernel
theorem d_Model_emit_187 : decode b_Model_emit 187 = .ok (.iload 7, 2) := by decide +kernel
theorem d_Model_emit_189 : decode b_Model_emit 189 = .ok (.iaload, 1) := by decide +kernel
theorem d_Model_emit_190 : decode b_Model_emit 190 = .ok (.iload_n 2, 1) := by decide +kernel
theorem d_Model_emit_191 : decode b_Model_emit 191 = .ok (.bipush 8, 2) := by decide +kernel
theorem d_Model_emit_193 : decode b_Model_emit 193 = .ok (.aload_n 0, 1) := by decide +kernel
theorem d_Model_emit_194 : decode b_Model_emit 194 = .ok (.getfield 166, 3) := by decide +kernel
theorem d_Model_emit_197 : decode b_Model_emit 197 = .ok (.iconst 1, 1) := by decide +kernel
theorem d_Model_emit_198 : decode b_Model_emit 198 = .ok (.isub, 1) := by decide +kernel
theorem d_Model_emit_199 : decode b_Model_emit 199 = .ok (.bipush (-3), 2) := by decide +kernel
theorem d_Model_emit_201 : decode b_Model_emit 201 = .ok (.invokevirtual 169, 3) := by decide +kernel
theorem d_Model_emit_204 : decode b_Model_emit 204 = .ok (.iinc 7 (-1), 3) := by decide +kernel
theorem d_Model_emit_207 : decode b_Model_emit 207 = .ok (.goto (-40), 3) := by decide +kernel
theorem d_Model_emit_210 : decode b_Model_emit 210 = .ok (.aload_n 0, 1) := by decide +kernel
theorem d_Model_emit_211 : decode b_Model_emit 211 = .ok (.getfield 99, 3) := by decide +kernel
theorem d_Model_emit_214 : decode b_Model_emit 214 = .ok (.iload_n 1, 1) := by decide +kernel
theorem d_Model_emit_215 : decode b_Model_emit 215 = .ok (.aload_n 0, 1) := by decide +kernel
theorem d_Model_emit_216 : decode b_Model_emit 216 = .ok (.getfield 166, 3) := by decide +kernel
theorem d_Model_emit_219 : decode b_Model_emit 219 = .ok (.iconst 1, 1) := by decide +kernel
theorem d_Model_emit_220 : decode b_Model_emit 220 = .ok (.isub, 1) := by decide +kernel
theorem d_Model_emit_221 : decode b_Model_emit 221 = .ok (.iastore, 1) := by decide +kernel
theorem d_Model_emit_222 : decode b_Model_emit 222 = .ok (.return_, 1) := by decide +kernel
theorem d_Model_write_0 : decode b_Model_write 0 = .ok (.aload_n 0, 1) := by decide +kernel
theorem d_Model_write_1 : decode b_Model_write 1 = .ok (.getfield 69, 3) := by decide +kernel
theorem d_Model_write_4 : decode b_Model_write 4 = .ok (.aload_n 0, 1) := by decide +kernel
theorem d_Model_write_5 : decode b_Model_write 5 = .ok (.getfield 166, 3) := by decide +kernel
theorem d_Model_write_8 : decode b_Model_write 8 = .ok (.iload_n 1, 1) := by decide +kernel
theorem d_Model_write_9 : decode b_Model_write 9 = .ok (.iastore, 1) := by decide +kernel
theorem d_Model_write_10 : decode b_Model_write 10 = .ok (.aload_n 0, 1) := by decide +kernel
theorem d_Model_write_11 : decode b_Model_write 11 = .ok (.getfield 72, 3) := by decide +kernel
theorem d_Model_write_14 : decode b_Model_write 14 = .ok (.aload_n 0, 1) := by decide +kernel
theorem d_Model_write_15 : decode b_Model_write 15 = .ok (.getfield 166, 3) := by decide +kernel
theorem d_Model_write_18 : decode b_Model_write 18 = .ok (.iload_n 2, 1) := by decide +kernel
theorem d_Model_write_19 : decode b_Model_write 19 = .ok (.iastore, 1) := by decide +kernel
theorem d_Model_write_20 : decode b_Model_write 20 = .ok (.aload_n 0, 1) := by decide +kernel
theorem d_Model_write_21 : decode b_Model_write 21 = .ok (.getfield 75, 3) := by decide +kernel
theorem d_Model_write_24 : decode b_Model_write 24 = .ok (.aload_n 0, 1) := by decide +kernel
theorem d_Model_write_25 : decode b_Model_write 25 = .ok (.getfield 166, 3) := by decide +kernel
theorem d_Model_write_28 : decode b_Model_write 28 = .ok (.iload_n 3, 1) := by decide +kernel
theorem d_Model_write_29 : decode b_Model_write 29 = .ok (.iastore, 1) := by decide +kernel
theorem d_Model_write_30 : decode b_Model_write 30 = .ok (.aload_n 0, 1) := by decide +kernel
theorem d_Model_write_31 : decode b_Model_write 31 = .ok (.getfield 81, 3) := by decide +kernel
theorem d_Model_write_34 : decode b_Model_write 34 = .ok (.aload_n 0, 1) := by decide +kernel
theorem d_Model_write_35 : decode b_Model_write 35 = .ok (.getfield 166, 3) := by decide +kernel
theorem d_Model_write_38 : decode b_Model_write 38 = .ok (.iload 4, 2) := by decide +kernel
theorem d_Model_write_40 : decode b_Model_write 40 = .ok (.iastore, 1) := by decide +kernel
theorem d_Model_write_41 : decode b_Model_write 41 = .ok (.aload_n 0, 1) := by decide +kernel
theorem d_Model_write_42 : decode b_Model_write 42 = .ok (.getfield 84, 3) := by decide +kernel
theorem d_Model_write_45 : decode b_Model_write 45 = .ok (.aload_n 0, 1) := by decide +kernel
theorem d_Model_write_46 : decode b_Model_write 46 = .ok (.getfield 166, 3) := by decide +kernel
theorem d_Model_write_49 : decode b_Model_write 49 = .ok (.iload 5, 2) := by decide +kernel
theorem d_Model_write_51 : decode b_Model_write 51 = .ok (.iastore, 1) := by decide +kernel
theorem d_Model_write_52 : decode b_Model_write 52 = .ok (.aload_n 0, 1) := by decide +kernel
theorem d_Model_write_53 : decode b_Model_write 53 = .ok (.getfield 87, 3) := by decide +kernel
theorem d_Model_write_56 : decode b_Model_write 56 = .ok (.aload_n 0, 1) := by decide +kernel
theorem d_Model_write_57 : decode b_Model_write 57 = .ok (.getfield 166, 3) := by decide +kernel
theorem d_Model_write_60 : decode b_Model_write 60 = .ok (.aload_n 0, 1) := by decide +kernel
theorem d_Model_write_61 : decode b_Model_write 61 = .ok (.getfield 166, 3) := by decide +kernel
theorem d_Model_write_64 : decode b_Model_write 64 = .ok (.iastore, 1) := by decide +kernel
theorem d_Model_write_65 : decode b_Model_write 65 = .ok (.iload 4, 2) := by decide +kernel
theorem d_Model_write_67 : decode b_Model_write 67 = .ok (.ifCond .lt 14, 3) := by decide +kernel
theorem d_Model_write_70 : decode b_Model_write 70 = .ok (.aload_n 0, 1) := by decide +kernel
theorem d_Model_write_71 : decode b_Model_write 71 = .ok (.getfield 87, 3) := by decide +kernel
theorem d_Model_write_74 : decode b_Model_write 74 = .ok (.iload 4, 2) := by decide +kernel
theorem d_Model_write_76 : decode b_Model_write 76 = .ok (.aload_n 0, 1) := by decide +kernel
theorem d_Model_write_77 : decode b_Model_write 77 = .ok (.getfield 166, 3) := by decide +kernel
theorem d_Model_write_80 : decode b_Model_write 80 = .ok (.iastore, 1) := by decide +kernel
theorem d_Model_write_81 : decode b_Model_write 81 = .ok (.iload 5, 2) := by decide +kernel
theorem d_Model_write_83 : decode b_Model_write 83 = .ok (.ifCond .lt 14, 3) := by decide +kernel
theorem d_Model_write_86 : decode b_Model_write 86 = .ok (.aload_n 0, 1) := by decide +kernel
theorem d_Model_write_87 : decode b_Model_write 87 = .ok (.getfield 87, 3) := by decide +kernel
theorem d_Model_write_90 : decode b_Model_write 90 = .ok (.iload 5, 2) := by decide +kernel
theorem d_Model_write_92 : decode b_Model_write 92 = .ok (.aload_n 0, 1) := by decide +kernel
theorem d_Model_write_93 : decode b_Model_write 93 = .ok (.getfield 166, 3) := by decide +kernel
theorem d_Model_write_96 : decode b_Model_write 96 = .ok (.iastore, 1) := by decide +kernel
theorem d_Model_write_97 : decode b_Model_write 97 = .ok (.aload_n 0, 1) := by decide +kernel
theorem d_Model_write_98 : decode b_Model_write 98 = .ok (.dup, 1) := by decide +kernel
theorem d_Model_write_99 : decode b_Model_write 99 = .ok (.getfield 166, 3) := by decide +kernel
theorem d_Model_write_102 : decode b_Model_write 102 = .ok (.iconst 1, 1) := by decide +kernel
theorem d_Model_write_103 : decode b_Model_write 103 = .ok (.iadd, 1) := by decide +kernel
theorem d_Model_write_104 : decode b_Model_write 104 = .ok (.putfield 166, 3) := by decide +kernel
theorem d_Model_write_107 : decode b_Model_write 107 = .ok (.return_, 1) := by decide +kernel
theorem d_Model_settle_0 : decode b_Model_settle 0 = .ok (.iconst 0, 1) := by decide +kernel
theorem d_Model_settle_1 : decode b_Model_settle 1 = .ok (.istore_n 2, 1) := by decide +kernel
theorem d_Model_settle_2 : decode b_Model_settle 2 = .ok (.iload_n 2, 1) := by decide +kernel
theorem d_Model_settle_3 : decode b_Model_settle 3 = .ok (.aload_n 0, 1) := by decide +kernel
theorem d_Model_settle_4 : decode b_Model_settle 4 = .ok (.getfield 65, 3) := by decide +kernel
theorem d_Model_settle_7 : decode b_Model_settle 7 = .ok (.if_icmp .ge 69, 3) := by decide +kernel
theorem d_Model_settle_10 : decode b_Model_settle 10 = .ok (.iconst 1, 1) := by decide +kernel
theorem d_Model_settle_11 : decode b_Model_settle 11 = .ok (.istore_n 3, 1) := by decide +kernel
theorem d_Model_settle_12 : decode b_Model_settle 12 = .ok (.iconst 0, 1) := by decide +kernel
theorem d_Model_settle_13 : decode b_Model_settle 13 = .ok (.istore 4, 2) := by decide +kernel
theorem d_Model_settle_15 : decode b_Model_settle 15 = .ok (.iload 4, 2) := by decide +kernel
theorem d_Model_settle_17 : decode b_Model_settle 17 = .ok (.iload_n 1, 1) := by decide +kernel
theorem d_Model_settle_18 : decode b_Model_settle 18 = .ok (.if_icmp .ge 40, 3) := by decide +kernel
theorem d_Model_settle_21 : decode b_Model_settle 21 = .ok (.iload_n 3, 1) := by decide +kernel
theorem d_Model_settle_22 : decode b_Model_settle 22 = .ok (.ifCond .eq 28, 3) := by decide +kernel
theorem d_Model_settle_25 : decode b_Model_settle 25 = .ok (.aload_n 0, 1) := by decide +kernel
theorem d_Model_settle_26 : decode b_Model_settle 26 = .ok (.iload 4, 2) := by decide +kernel
theorem d_Model_settle_28 : decode b_Model_settle 28 = .ok (.iload_n 1, 1) := by decide +kernel
theorem d_Model_settle_29 : decode b_Model_settle 29 = .ok (.invokevirtual 173, 3) := by decide +kernel
theorem d_Model_settle_32 : decode b_Model_settle 32 = .ok (.ifCond .eq 14, 3) := by decide +kernel
theorem d_Model_settle_35 : decode b_Model_settle 35 = .ok (.aload_n 0, 1) := by decide +kernel
theorem d_Model_settle_36 : decode b_Model_settle 36 = .ok (.getfield 90, 3) := by decide +kernel
theorem d_Model_settle_39 : decode b_Model_settle 39 = .ok (.iload 4, 2) := by decide +kernel
theorem d_Model_settle_41 : decode b_Model_settle 41 = .ok (.iaload, 1) := by decide +kernel
theorem d_Model_settle_42 : decode b_Model_settle 42 = .ok (.iload_n 2, 1) := by decide +kernel
theorem d_Model_settle_43 : decode b_Model_settle 43 = .ok (.if_icmp .eq 7, 3) := by decide +kernel
theorem d_Model_settle_46 : decode b_Model_settle 46 = .ok (.iconst 1, 1) := by decide +kernel
theorem d_Model_settle_47 : decode b_Model_settle 47 = .ok (.goto 4, 3) := by decide +kernel
theorem d_Model_settle_50 : decode b_Model_settle 50 = .ok (.iconst 0, 1) := by decide +kernel
theorem d_Model_settle_51 : decode b_Model_settle 51 = .ok (.istore_n 3, 1) := by decide +kernel
theorem d_Model_settle_52 : decode b_Model_settle 52 = .ok (.iinc 4 1, 3) := by decide +kernel
theorem d_Model_settle_55 : decode b_Model_settle 55 = .ok (.goto (-40), 3) := by decide +kernel
theorem d_Model_settle_58 : decode b_Model_settle 58 = .ok (.iload_n 3, 1) := by decide +kernel
theorem d_Model_settle_59 : decode b_Model_settle 59 = .ok (.ifCond .eq 11, 3) := by decide +kernel
theorem d_Model_settle_62 : decode b_Model_settle 62 = .ok (.aload_n 0, 1) := by decide +kernel
theorem d_Model_settle_63 : decode b_Model_settle 63 = .ok (.getfield 90, 3) := by decide +kernel
theorem d_Model_settle_66 : decode b_Model_settle 66 = .ok (.iload_n 1, 1) := by decide +kernel
theorem d_Model_settle_67 : decode b_Model_settle 67 = .ok (.iload_n 2, 1) := by decide +kernel
theorem d_Model_settle_68 : decode b_Model_settle 68 = .ok (.iastore, 1) := by decide +kernel
theorem d_Model_settle_69 : decode b_Model_settle 69 = .ok (.return_, 1) := by decide +kernel
theorem d_Model_settle_70 : decode b_Model_settle 70 = .ok (.iinc 2 1, 3) := by decide +kernel
theorem d_Model_settle_73 : decode b_Model_settle 73 = .ok (.goto (-71), 3) := by decide +kernel
theorem d_Model_settle_76 : decode b_Model_settle 76 = .ok (.iload_n 1, 1) := by decide +kernel
theorem d_Model_settle_77 : decode b_Model_settle 77 = .ok (.istore_n 2, 1) := by decide +kernel
theorem d_Model_settle_78 : decode b_Model_settle 78 = .ok (.iload_n 1, 1) := by decide +kernel
theorem d_Model_settle_79 : decode b_Model_settle 79 = .ok (.iconst 1, 1) := by decide +kernel
theorem d_Model_settle_80 : decode b_Model_settle 80 = .ok (.isub, 1) := by decide +kernel
theorem d_Model_settle_81 : decode b_Model_settle 81 = .ok (.istore_n 3, 1) := by decide +kernel
theorem d_Model_settle_82 : decode b_Model_settle 82 = .ok (.iload_n 3, 1) := by decide +kernel
theorem d_Model_settle_83 : decode b_Model_settle 83 = .ok (.ifCond .lt 39, 3) := by decide +kernel
theorem d_Model_settle_86 : decode b_Model_settle 86 = .ok (.aload_n 0, 1) := by decide +kernel
theorem d_Model_settle_87 : decode b_Model_settle 87 = .ok (.iload_n 3, 1) := by decide +kernel
theorem d_Model_settle_88 : decode b_Model_settle 88 = .ok (.iload_n 1, 1) := by decide +kernel
theorem d_Model_settle_89 : decode b_Model_settle 89 = .ok (.invokevirtual 173, 3) := by decide +kernel
theorem d_Model_settle_92 : decode b_Model_settle 92 = .ok (.ifCond .eq 22, 3) := by decide +kernel
theorem d_Model_settle_95 : decode b_Model_settle 95 = .ok (.aload_n 0, 1) := by decide +kernel
theorem d_Model_settle_96 : decode b_Model_settle 96 = .ok (.getfield 87, 3) := by decide +kernel
theorem d_Model_settle_99 : decode b_Model_settle 99 = .ok (.iload_n 3, 1) := by decide +kernel
theorem d_Model_settle_100 : decode b_Model_settle 100 = .ok (.iaload, 1) := by decide +kernel
theorem d_Model_settle_101 : decode b_Model_settle 101 = .ok (.aload_n 0, 1) := by decide +kernel
theorem d_Model_settle_102 : decode b_Model_settle 102 = .ok (.getfield 87, 3) := by decide +kernel
theorem d_Model_settle_105 : decode b_Model_settle 105 = .ok (.iload_n 2, 1) := by decide +kernel
theorem d_Model_settle_106 : decode b_Model_settle 106 = .ok (.iaload, 1) := by decide +kernel
theorem d_Model_settle_107 : decode b_Model_settle 107 = .ok (.if_icmp .le 7, 3) := by decide +kernel
theorem d_Model_settle_110 : decode b_Model_settle 110 = .ok (.iload_n 3, 1) := by decide +kernel
theorem d_Model_settle_111 : decode b_Model_settle 111 = .ok (.goto 4, 3) := by decide +kernel
theorem d_Model_settle_114 : decode b_Model_settle 114 = .ok (.iload_n 2, 1) := by decide +kernel
theorem d_Model_settle_115 : decode b_Model_settle 115 = .ok (.istore_n 2, 1) := by decide +kernel
theorem d_Model_settle_116 : decode b_Model_settle 116 = .ok (.iinc 3 (-1), 3) := by decide +kernel
theorem d_Model_settle_119 : decode b_Model_settle 119 = .ok (.goto (-37), 3) := by decide +kernel
theorem d_Model_settle_122 : decode b_Model_settle 122 = .ok (.iload_n 2, 1) := by decide +kernel
theorem d_Model_settle_123 : decode b_Model_settle 123 = .ok (.iload_n 1, 1) := by decide +kernel
theorem d_Model_settle_124 : decode b_Model_settle 124 = .ok (.if_icmp .ne 7, 3) := by decide +kernel
theorem d_Model_settle_127 : decode b_Model_settle 127 = .ok (.iconst 0, 1) := by decide +kernel
theorem d_Model_settle_128 : decode b_Model_settle 128 = .ok (.goto 9, 3) := by decide +kernel
theorem d_Model_settle_131 : decode b_Model_settle 131 = .ok (.aload_n 0, 1) := by decide +kernel
theorem d_Model_settle_132 : decode b_Model_settle 132 = .ok (.getfield 90, 3) := by decide +kernel
theorem d_Model_settle_135 : decode b_Model_settle 135 = .ok (.iload_n 2, 1) := by decide +kernel
theorem d_Model_settle_136 : decode b_Model_settle 136 = .ok (.iaload, 1) := by decide +kernel
theorem d_Model_settle_137 : decode b_Model_settle 137 = .ok (.istore_n 3, 1) := by decide +kernel
theorem d_Model_settle_138 : decode b_Model_settle 138 = .ok (.aload_n 0, 1) := by decide +kernel
theorem d_Model_settle_139 : decode b_Model_settle 139 = .ok (.getfield 90, 3) := by decide +kernel
theorem d_Model_settle_142 : decode b_Model_settle 142 = .ok (.iload_n 2, 1) := by decide +kernel
theorem d_Model_settle_143 : decode b_Model_settle 143 = .ok (.aload_n 0, 1) := by decide +kernel
theorem d_Model_settle_144 : decode b_Model_settle 144 = .ok (.getfield 65, 3) := by decide +kernel
theorem d_Model_settle_147 : decode b_Model_settle 147 = .ok (.aload_n 0, 1) := by decide +kernel
theorem d_Model_settle_148 : decode b_Model_settle 148 = .ok (.getfield 176, 3) := by decide +kernel
theorem d_Model_settle_151 : decode b_Model_settle 151 = .ok (.iadd, 1) := by decide +kernel
theorem d_Model_settle_152 : decode b_Model_settle 152 = .ok (.iastore, 1) := by decide +kernel
theorem d_Model_settle_153 : decode b_Model_settle 153 = .ok (.aload_n 0, 1) := by decide +kernel
theorem d_Model_settle_154 : decode b_Model_settle 154 = .ok (.dup, 1) := by decide +kernel
theorem d_Model_settle_155 : decode b_Model_settle 155 = .ok (.getfield 176, 3) := by decide +kernel
theorem d_Model_settle_158 : decode b_Model_settle 158 = .ok (.iconst 1, 1) := by decide +kernel
theorem d_Model_settle_159 : decode b_Model_settle 159 = .ok (.iadd, 1) := by decide +kernel
theorem d_Model_settle_160 : decode b_Model_settle 160 = .ok (.putfield 176, 3) := by decide +kernel
theorem d_Model_settle_163 : decode b_Model_settle 163 = .ok (.aload_n 0, 1) := by decide +kernel
theorem d_Model_settle_164 : decode b_Model_settle 164 = .ok (.getfield 90, 3) := by decide +kernel
theorem d_Model_settle_167 : decode b_Model_settle 167 = .ok (.iload_n 1, 1) := by decide +kernel
theorem d_Model_settle_168 : decode b_Model_settle 168 = .ok (.iload_n 2, 1) := by decide +kernel
theorem d_Model_settle_169 : decode b_Model_settle 169 = .ok (.iload_n 1, 1) := by decide +kernel
theorem d_Model_settle_170 : decode b_Model_settle 170 = .ok (.if_icmp .ne 12, 3) := by decide +kernel
theorem d_Model_settle_173 : decode b_Model_settle 173 = .ok (.aload_n 0, 1) := by decide +kernel
theorem d_Model_settle_174 : decode b_Model_settle 174 = .ok (.getfield 90, 3) := by decide +kernel
theorem d_Model_settle_177 : decode b_Model_settle 177 = .ok (.iload_n 1, 1) := by decide +kernel
theorem d_Model_settle_178 : decode b_Model_settle 178 = .ok (.iaload, 1) := by decide +kernel
theorem d_Model_settle_179 : decode b_Model_settle 179 = .ok (.goto 4, 3) := by decide +kernel
theorem d_Model_settle_182 : decode b_Model_settle 182 = .ok (.iload_n 3, 1) := by decide +kernel
theorem d_Model_settle_183 : decode b_Model_settle 183 = .ok (.iastore, 1) := by decide +kernel
theorem d_Model_settle_184 : decode b_Model_settle 184 = .ok (.return_, 1) := by decide +kernel
theorem d_Model_holds_0 : decode b_Model_holds 0 = .ok (.aload_n 0, 1) := by decide +kernel
theorem d_Model_holds_1 : decode b_Model_holds 1 = .ok (.getfield 90, 3) := by decide +kernel
theorem d_Model_holds_4 : decode b_Model_holds 4 = .ok (.iload_n 1, 1) := by decide +kernel
theorem d_Model_holds_5 : decode b_Model_holds 5 = .ok (.iaload, 1) := by decide +kernel
theorem d_Model_holds_6 : decode b_Model_holds 6 = .ok (.aload_n 0, 1) := by decide +kernel
theorem d_Model_holds_7 : decode b_Model_holds 7 = .ok (.getfield 65, 3) := by decide +kernel
theorem d_Model_holds_10 : decode b_Model_holds 10 = .ok (.if_icmp .ge 17, 3) := by decide +kernel
theorem d_Model_holds_13 : decode b_Model_holds 13 = .ok (.aload_n 0, 1) := by decide +kernel
theorem d_Model_holds_14 : decode b_Model_holds 14 = .ok (.getfield 87, 3) := by decide +kernel
theorem d_Model_holds_17 : decode b_Model_holds 17 = .ok (.iload_n 1, 1) := by decide +kernel
theorem d_Model_holds_18 : decode b_Model_holds 18 = .ok (.iaload, 1) := by decide +kernel
theorem d_Model_holds_19 : decode b_Model_holds 19 = .ok (.iload_n 2, 1) := by decide +kernel
theorem d_Model_holds_20 : decode b_Model_holds 20 = .ok (.if_icmp .le 7, 3) := by decide +kernel
theorem d_Model_holds_23 : decode b_Model_holds 23 = .ok (.iconst 1, 1) := by decide +kernel
theorem d_Model_holds_24 : decode b_Model_holds 24 = .ok (.goto 4, 3) := by decide +kernel
theorem d_Model_holds_27 : decode b_Model_holds 27 = .ok (.iconst 0, 1) := by decide +kernel
theorem d_Model_holds_28 : decode b_Model_holds 28 = .ok (.ireturn, 1) := by decide +kernel
theorem d_Model_instruction_0 : decode b_Model_instruction 0 = .ok (.iload_n 1, 1) := by decide +kernel
theorem d_Model_instruction_1 : decode b_Model_instruction 1 = .ok (.ifCond .lt 19, 3) := by decide +kernel
theorem d_Model_instruction_4 : decode b_Model_instruction 4 = .ok (.iload_n 1, 1) := by decide +kernel
theorem d_Model_instruction_5 : decode b_Model_instruction 5 = .ok (.aload_n 0, 1) := by decide +kernel
theorem d_Model_instruction_6 : decode b_Model_instruction 6 = .ok (.getfield 166, 3) := by decide +kernel
theorem d_Model_instruction_9 : decode b_Model_instruction 9 = .ok (.if_icmp .ge 11, 3) := by decide +kernel
theorem d_Model_instruction_12 : decode b_Model_instruction 12 = .ok (.iload_n 2, 1) := by decide +kernel
theorem d_Model_instruction_13 : decode b_Model_instruction 13 = .ok (.iconst 4, 1) := by decide +kernel
theorem d_Model_instruction_14 : decode b_Model_instruction 14 = .ok (.invokestatic 111, 3) := by decide +kernel
theorem d_Model_instruction_17 : decode b_Model_instruction 17 = .ok (.ifCond .eq 5, 3) := by decide +kernel
theorem d_Model_instruction_20 : decode b_Model_instruction 20 = .ok (.iconst (-1), 1) := by decide +kernel
theorem d_Model_instruction_21 : decode b_Model_instruction 21 = .ok (.ireturn, 1) := by decide +kernel
theorem d_Model_instruction_22 : decode b_Model_instruction 22 = .ok (.iload_n 2, 1) := by decide +kernel
theorem d_Model_instruction_23 : decode b_Model_instruction 23 = .ok (.iconst 3, 1) := by decide +kernel
theorem d_Model_instruction_24 : decode b_Model_instruction 24 = .ok (.if_icmp .ge 37, 3) := by decide +kernel
theorem d_Model_instruction_27 : decode b_Model_instruction 27 = .ok (.iload_n 2, 1) := by decide +kernel
theorem d_Model_instruction_28 : decode b_Model_instruction 28 = .ok (.ifCond .ne 12, 3) := by decide +kernel
theorem d_Model_instruction_31 : decode b_Model_instruction 31 = .ok (.aload_n 0, 1) := by decide +kernel
theorem d_Model_instruction_32 : decode b_Model_instruction 32 = .ok (.getfield 69, 3) := by decide +kernel
theorem d_Model_instruction_35 : decode b_Model_instruction 35 = .ok (.iload_n 1, 1) := by decide +kernel
theorem d_Model_instruction_36 : decode b_Model_instruction 36 = .ok (.iaload, 1) := by decide +kernel
theorem d_Model_instruction_37 : decode b_Model_instruction 37 = .ok (.goto 23, 3) := by decide +kernel
theorem d_Model_instruction_40 : decode b_Model_instruction 40 = .ok (.iload_n 2, 1) := by decide +kernel
theorem d_Model_instruction_41 : decode b_Model_instruction 41 = .ok (.iconst 1, 1) := by decide +kernel
theorem d_Model_instruction_42 : decode b_Model_instruction 42 = .ok (.if_icmp .ne 12, 3) := by decide +kernel
theorem d_Model_instruction_45 : decode b_Model_instruction 45 = .ok (.aload_n 0, 1) := by decide +kernel
theorem d_Model_instruction_46 : decode b_Model_instruction 46 = .ok (.getfield 72, 3) := by decide +kernel
theorem d_Model_instruction_49 : decode b_Model_instruction 49 = .ok (.iload_n 1, 1) := by decide +kernel
theorem d_Model_instruction_50 : decode b_Model_instruction 50 = .ok (.iaload, 1) := by decide +kernel
theorem d_Model_instruction_51 : decode b_Model_instruction 51 = .ok (.goto 9, 3) := by decide +kernel
theorem d_Model_instruction_54 : decode b_Model_instruction 54 = .ok (.aload_n 0, 1) := by decide +kernel
theorem d_Model_instruction_55 : decode b_Model_instruction 55 = .ok (.getfield 90, 3) := by decide +kernel
theorem d_Model_instruction_58 : decode b_Model_instruction 58 = .ok (.iload_n 1, 1) := by decide +kernel
theorem d_Model_instruction_59 : decode b_Model_instruction 59 = .ok (.iaload, 1) := by decide +kernel
theorem d_Model_instruction_60 : decode b_Model_instruction 60 = .ok (.ireturn, 1) := by decide +kernel
theorem d_Model_instruction_61 : decode b_Model_instruction 61 = .ok (.iload_n 2, 1) := by decide +kernel
theorem d_Model_instruction_62 : decode b_Model_instruction 62 = .ok (.iconst 3, 1) := by decide +kernel
theorem d_Model_instruction_63 : decode b_Model_instruction 63 = .ok (.if_icmp .ne 12, 3) := by decide +kernel
theorem d_Model_instruction_66 : decode b_Model_instruction 66 = .ok (.aload_n 0, 1) := by decide +kernel
theorem d_Model_instruction_67 : decode b_Model_instruction 67 = .ok (.getfield 81, 3) := by decide +kernel
theorem d_Model_instruction_70 : decode b_Model_instruction 70 = .ok (.iload_n 1, 1) := by decide +kernel
theorem d_Model_instruction_71 : decode b_Model_instruction 71 = .ok (.iaload, 1) := by decide +kernel
theorem d_Model_instruction_72 : decode b_Model_instruction 72 = .ok (.goto 9, 3) := by decide +kernel
theorem d_Model_instruction_75 : decode b_Model_instruction 75 = .ok (.aload_n 0, 1) := by decide +kernel
theorem d_Model_instruction_76 : decode b_Model_instruction 76 = .ok (.getfield 84, 3) := by decide +kernel
theorem d_Model_instruction_79 : decode b_Model_instruction 79 = .ok (.iload_n 1, 1) := by decide +kernel
theorem d_Model_instruction_80 : decode b_Model_instruction 80 = .ok (.iaload, 1) := by decide +kernel
theorem d_Model_instruction_81 : decode b_Model_instruction 81 = .ok (.istore_n 3, 1) := by decide +kernel
theorem d_Model_instruction_82 : decode b_Model_instruction 82 = .ok (.iload_n 3, 1) := by decide +kernel
theorem d_Model_instruction_83 : decode b_Model_instruction 83 = .ok (.ifCond .ge 8, 3) := by decide +kernel
theorem d_Model_instruction_86 : decode b_Model_instruction 86 = .ok (.bipush (-3), 2) := by decide +kernel
theorem d_Model_instruction_88 : decode b_Model_instruction 88 = .ok (.goto 9, 3) := by decide +kernel
theorem d_Model_instruction_91 : decode b_Model_instruction 91 = .ok (.aload_n 0, 1) := by decide +kernel
theorem d_Model_instruction_92 : decode b_Model_instruction 92 = .ok (.getfield 90, 3) := by decide +kernel
theorem d_Model_instruction_95 : decode b_Model_instruction 95 = .ok (.iload_n 3, 1) := by decide +kernel
theorem d_Model_instruction_96 : decode b_Model_instruction 96 = .ok (.iaload, 1) := by decide +kernel
theorem d_Model_instruction_97 : decode b_Model_instruction 97 = .ok (.ireturn, 1) := by decide +kernel
theorem d_Model_slots_0 : decode b_Model_slots 0 = .ok (.aload_n 0, 1) := by decide +kernel
theorem d_Model_slots_1 : decode b_Model_slots 1 = .ok (.getfield 176, 3) := by decide +kernel
theorem d_Model_slots_4 : decode b_Model_slots 4 = .ok (.ireturn, 1) := by decide +kernel
theorem d_Model_set_0 : decode b_Model_set 0 = .ok (.iload_n 1, 1) := by decide +kernel
theorem d_Model_set_1 : decode b_Model_set 1 = .ok (.bipush 7, 2) := by decide +kernel
theorem d_Model_set_3 : decode b_Model_set 3 = .ok (.invokestatic 111, 3) := by decide +kernel
theorem d_Model_set_6 : decode b_Model_set 6 = .ok (.ifCond .eq 5, 3) := by decide +kernel
theorem d_Model_set_9 : decode b_Model_set 9 = .ok (.iconst 0, 1) := by decide +kernel
theorem d_Model_set_10 : decode b_Model_set 10 = .ok (.ireturn, 1) := by decide +kernel
theorem d_Model_set_11 : decode b_Model_set 11 = .ok (.aload_n 0, 1) := by decide +kernel
theorem d_Model_set_12 : decode b_Model_set 12 = .ok (.getfield 105, 3) := by decide +kernel
theorem d_Model_set_15 : decode b_Model_set 15 = .ok (.iload_n 1, 1) := by decide +kernel
theorem d_Model_set_16 : decode b_Model_set 16 = .ok (.iload_n 2, 1) := by decide +kernel
theorem d_Model_set_17 : decode b_Model_set 17 = .ok (.iastore, 1) := by decide +kernel
theorem d_Model_set_18 : decode b_Model_set 18 = .ok (.iconst 1, 1) := by decide +kernel
theorem d_Model_set_19 : decode b_Model_set 19 = .ok (.ireturn, 1) := by decide +kernel
theorem d_Model_run_0 : decode b_Model_run 0 = .ok (.iconst 0, 1) := by decide +kernel
theorem d_Model_run_1 : decode b_Model_run 1 = .ok (.istore_n 1, 1) := by decide +kernel
theorem d_Model_run_2 : decode b_Model_run 2 = .ok (.iload_n 1, 1) := by decide +kernel
theorem d_Model_run_3 : decode b_Model_run 3 = .ok (.aload_n 0, 1) := by decide +kernel
theorem d_Model_run_4 : decode b_Model_run 4 = .ok (.getfield 166, 3) := by decide +kernel
theorem d_Model_run_7 : decode b_Model_run 7 = .ok (.if_icmp .ge 83, 3) := by decide +kernel
theorem d_Model_run_10 : decode b_Model_run 10 = .ok (.aload_n 0, 1) := by decide +kernel
theorem d_Model_run_11 : decode b_Model_run 11 = .ok (.getfield 81, 3) := by decide +kernel
theorem d_Model_run_14 : decode b_Model_run 14 = .ok (.iload_n 1, 1) := by decide +kernel
theorem d_Model_run_15 : decode b_Model_run 15 = .ok (.iaload, 1) := by decide +kernel
theorem d_Model_run_16 : decode b_Model_run 16 = .ok (.ifCond .ge 7, 3) := by decide +kernel
theorem d_Model_run_19 : decode b_Model_run 19 = .ok (.iconst 0, 1) := by decide +kernel
theorem d_Model_run_20 : decode b_Model_run 20 = .ok (.goto 14, 3) := by decide +kernel
theorem d_Model_run_23 : decode b_Model_run 23 = .ok (.aload_n 0, 1) := by decide +kernel
theorem d_Model_run_24 : decode b_Model_run 24 = .ok (.getfield 93, 3) := by decide +kernel
theorem d_Model_run_27 : decode b_Model_run 27 = .ok (.aload_n 0, 1) := by decide +kernel
theorem d_Model_run_28 : decode b_Model_run 28 = .ok (.getfield 81, 3) := by decide +kernel
theorem d_Model_run_31 : decode b_Model_run 31 = .ok (.iload_n 1, 1) := by decide +kernel
theorem d_Model_run_32 : decode b_Model_run 32 = .ok (.iaload, 1) := by decide +kernel
theorem d_Model_run_33 : decode b_Model_run 33 = .ok (.iaload, 1) := by decide +kernel
theorem d_Model_run_34 : decode b_Model_run 34 = .ok (.istore_n 2, 1) := by decide +kernel
theorem d_Model_run_35 : decode b_Model_run 35 = .ok (.aload_n 0, 1) := by decide +kernel
theorem d_Model_run_36 : decode b_Model_run 36 = .ok (.getfield 84, 3) := by decide +kernel
theorem d_Model_run_39 : decode b_Model_run 39 = .ok (.iload_n 1, 1) := by decide +kernel
theorem d_Model_run_40 : decode b_Model_run 40 = .ok (.iaload, 1) := by decide +kernel
theorem d_Model_run_41 : decode b_Model_run 41 = .ok (.ifCond .ge 7, 3) := by decide +kernel
theorem d_Model_run_44 : decode b_Model_run 44 = .ok (.iconst 0, 1) := by decide +kernel
theorem d_Model_run_45 : decode b_Model_run 45 = .ok (.goto 14, 3) := by decide +kernel
theorem d_Model_run_48 : decode b_Model_run 48 = .ok (.aload_n 0, 1) := by decide +kernel
theorem d_Model_run_49 : decode b_Model_run 49 = .ok (.getfield 93, 3) := by decide +kernel
theorem d_Model_run_52 : decode b_Model_run 52 = .ok (.aload_n 0, 1) := by decide +kernel
theorem d_Model_run_53 : decode b_Model_run 53 = .ok (.getfield 84, 3) := by decide +kernel
theorem d_Model_run_56 : decode b_Model_run 56 = .ok (.iload_n 1, 1) := by decide +kernel
theorem d_Model_run_57 : decode b_Model_run 57 = .ok (.iaload, 1) := by decide +kernel
theorem d_Model_run_58 : decode b_Model_run 58 = .ok (.iaload, 1) := by decide +kernel
theorem d_Model_run_59 : decode b_Model_run 59 = .ok (.istore_n 3, 1) := by decide +kernel
theorem d_Model_run_60 : decode b_Model_run 60 = .ok (.aload_n 0, 1) := by decide +kernel
theorem d_Model_run_61 : decode b_Model_run 61 = .ok (.getfield 93, 3) := by decide +kernel
theorem d_Model_run_64 : decode b_Model_run 64 = .ok (.iload_n 1, 1) := by decide +kernel
theorem d_Model_run_65 : decode b_Model_run 65 = .ok (.aload_n 0, 1) := by decide +kernel
theorem d_Model_run_66 : decode b_Model_run 66 = .ok (.aload_n 0, 1) := by decide +kernel
theorem d_Model_run_67 : decode b_Model_run 67 = .ok (.getfield 75, 3) := by decide +kernel
theorem d_Model_run_70 : decode b_Model_run 70 = .ok (.iload_n 1, 1) := by decide +kernel
theorem d_Model_run_71 : decode b_Model_run 71 = .ok (.iaload, 1) := by decide +kernel
theorem d_Model_run_72 : decode b_Model_run 72 = .ok (.aload_n 0, 1) := by decide +kernel
theorem d_Model_run_73 : decode b_Model_run 73 = .ok (.getfield 78, 3) := by decide +kernel
theorem d_Model_run_76 : decode b_Model_run 76 = .ok (.iload_n 1, 1) := by decide +kernel
theorem d_Model_run_77 : decode b_Model_run 77 = .ok (.iaload, 1) := by decide +kernel
theorem d_Model_run_78 : decode b_Model_run 78 = .ok (.iload_n 2, 1) := by decide +kernel
theorem d_Model_run_79 : decode b_Model_run 79 = .ok (.iload_n 3, 1) := by decide +kernel
theorem d_Model_run_80 : decode b_Model_run 80 = .ok (.invokevirtual 189, 3) := by decide +kernel
theorem d_Model_run_83 : decode b_Model_run 83 = .ok (.iastore, 1) := by decide +kernel
theorem d_Model_run_84 : decode b_Model_run 84 = .ok (.iinc 1 1, 3) := by decide +kernel
theorem d_Model_run_87 : decode b_Model_run 87 = .ok (.goto (-85), 3) := by decide +kernel
theorem d_Model_run_90 : decode b_Model_run 90 = .ok (.aload_n 0, 1) := by decide +kernel
theorem d_Model_run_91 : decode b_Model_run 91 = .ok (.getfield 166, 3) := by decide +kernel
theorem d_Model_run_94 : decode b_Model_run 94 = .ok (.ifCond .ne 7, 3) := by decide +kernel
theorem d_Model_run_97 : decode b_Model_run 97 = .ok (.iconst 0, 1) := by decide +kernel
theorem d_Model_run_98 : decode b_Model_run 98 = .ok (.goto 14, 3) := by decide +kernel
theorem d_Model_run_101 : decode b_Model_run 101 = .ok (.aload_n 0, 1) := by decide +kernel
theorem d_Model_run_102 : decode b_Model_run 102 = .ok (.getfield 93, 3) := by decide +kernel
theorem d_Model_run_105 : decode b_Model_run 105 = .ok (.aload_n 0, 1) := by decide +kernel
theorem d_Model_run_106 : decode b_Model_run 106 = .ok (.getfield 166, 3) := by decide +kernel
theorem d_Model_run_109 : decode b_Model_run 109 = .ok (.iconst 1, 1) := by decide +kernel
theorem d_Model_run_110 : decode b_Model_run 110 = .ok (.isub, 1) := by decide +kernel
theorem d_Model_run_111 : decode b_Model_run 111 = .ok (.iaload, 1) := by decide +kernel
theorem d_Model_run_112 : decode b_Model_run 112 = .ok (.ireturn, 1) := by decide +kernel
theorem d_Model_calculate_0 : decode b_Model_calculate 0 = .ok (.iload_n 1, 1) := by decide +kernel
theorem d_Model_calculate_1 : decode b_Model_calculate 1 = .ok (.iconst 3, 1) := by decide +kernel
theorem d_Model_calculate_2 : decode b_Model_calculate 2 = .ok (.if_icmp .ge 30, 3) := by decide +kernel
theorem d_Model_calculate_5 : decode b_Model_calculate 5 = .ok (.iload_n 1, 1) := by decide +kernel
theorem d_Model_calculate_6 : decode b_Model_calculate 6 = .ok (.ifCond .ne 7, 3) := by decide +kernel
theorem d_Model_calculate_9 : decode b_Model_calculate 9 = .ok (.iload_n 2, 1) := by decide +kernel
theorem d_Model_calculate_10 : decode b_Model_calculate 10 = .ok (.goto 21, 3) := by decide +kernel
theorem d_Model_calculate_13 : decode b_Model_calculate 13 = .ok (.iload_n 1, 1) := by decide +kernel
theorem d_Model_calculate_14 : decode b_Model_calculate 14 = .ok (.iconst 1, 1) := by decide +kernel
theorem d_Model_calculate_15 : decode b_Model_calculate 15 = .ok (.if_icmp .ne 12, 3) := by decide +kernel
theorem d_Model_calculate_18 : decode b_Model_calculate 18 = .ok (.aload_n 0, 1) := by decide +kernel
theorem d_Model_calculate_19 : decode b_Model_calculate 19 = .ok (.getfield 105, 3) := by decide +kernel
theorem d_Model_calculate_22 : decode b_Model_calculate 22 = .ok (.iload_n 2, 1) := by decide +kernel
theorem d_Model_calculate_23 : decode b_Model_calculate 23 = .ok (.iaload, 1) := by decide +kernel
theorem d_Model_calculate_24 : decode b_Model_calculate 24 = .ok (.goto 7, 3) := by decide +kernel
theorem d_Model_calculate_27 : decode b_Model_calculate 27 = .ok (.bipush 100, 2) := by decide +kernel
theorem d_Model_calculate_29 : decode b_Model_calculate 29 = .ok (.iload_n 2, 1) := by decide +kernel
theorem d_Model_calculate_30 : decode b_Model_calculate 30 = .ok (.iadd, 1) := by decide +kernel
theorem d_Model_calculate_31 : decode b_Model_calculate 31 = .ok (.ireturn, 1) := by decide +kernel
theorem d_Model_calculate_32 : decode b_Model_calculate 32 = .ok (.iload_n 1, 1) := by decide +kernel
theorem d_Model_calculate_33 : decode b_Model_calculate 33 = .ok (.iconst 5, 1) := by decide +kernel
theorem d_Model_calculate_34 : decode b_Model_calculate 34 = .ok (.if_icmp .ge 17, 3) := by decide +kernel
theorem d_Model_calculate_37 : decode b_Model_calculate 37 = .ok (.iload_n 1, 1) := by decide +kernel
theorem d_Model_calculate_38 : decode b_Model_calculate 38 = .ok (.iconst 3, 1) := by decide +kernel
theorem d_Model_calculate_39 : decode b_Model_calculate 39 = .ok (.if_icmp .ne 8, 3) := by decide +kernel
theorem d_Model_calculate_42 : decode b_Model_calculate 42 = .ok (.iload_n 3, 1) := by decide +kernel
theorem d_Model_calculate_43 : decode b_Model_calculate 43 = .ok (.ineg, 1) := by decide +kernel
theorem d_Model_calculate_44 : decode b_Model_calculate 44 = .ok (.goto 6, 3) := by decide +kernel
theorem d_Model_calculate_47 : decode b_Model_calculate 47 = .ok (.iload_n 3, 1) := by decide +kernel
theorem d_Model_calculate_48 : decode b_Model_calculate 48 = .ok (.iload_n 3, 1) := by decide +kernel
theorem d_Model_calculate_49 : decode b_Model_calculate 49 = .ok (.iadd, 1) := by decide +kernel
theorem d_Model_calculate_50 : decode b_Model_calculate 50 = .ok (.ireturn, 1) := by decide +kernel
theorem d_Model_calculate_51 : decode b_Model_calculate 51 = .ok (.iload_n 1, 1) := by decide +kernel
theorem d_Model_calculate_52 : decode b_Model_calculate 52 = .ok (.iconst 5, 1) := by decide +kernel
theorem d_Model_calculate_53 : decode b_Model_calculate 53 = .ok (.if_icmp .ne 10, 3) := by decide +kernel
theorem d_Model_calculate_56 : decode b_Model_calculate 56 = .ok (.iload_n 3, 1) := by decide +kernel
theorem d_Model_calculate_57 : decode b_Model_calculate 57 = .ok (.iload 4, 2) := by decide +kernel
theorem d_Model_calculate_59 : decode b_Model_calculate 59 = .ok (.iadd, 1) := by decide +kernel
theorem d_Model_calculate_60 : decode b_Model_calculate 60 = .ok (.goto 30, 3) := by decide +kernel
theorem d_Model_calculate_63 : decode b_Model_calculate 63 = .ok (.iload_n 1, 1) := by decide +kernel
theorem d_Model_calculate_64 : decode b_Model_calculate 64 = .ok (.bipush 6, 2) := by decide +kernel
theorem d_Model_calculate_66 : decode b_Model_calculate 66 = .ok (.if_icmp .ne 10, 3) := by decide +kernel
theorem d_Model_calculate_69 : decode b_Model_calculate 69 = .ok (.iload_n 3, 1) := by decide +kernel
theorem d_Model_calculate_70 : decode b_Model_calculate 70 = .ok (.iload 4, 2) := by decide +kernel
theorem d_Model_calculate_72 : decode b_Model_calculate 72 = .ok (.isub, 1) := by decide +kernel
theorem d_Model_calculate_73 : decode b_Model_calculate 73 = .ok (.goto 17, 3) := by decide +kernel
theorem d_Model_calculate_76 : decode b_Model_calculate 76 = .ok (.iload_n 1, 1) := by decide +kernel
theorem d_Model_calculate_77 : decode b_Model_calculate 77 = .ok (.bipush 7, 2) := by decide +kernel
theorem d_Model_calculate_79 : decode b_Model_calculate 79 = .ok (.if_icmp .ne 10, 3) := by decide +kernel
theorem d_Model_calculate_82 : decode b_Model_calculate 82 = .ok (.iload_n 3, 1) := by decide +kernel
theorem d_Model_calculate_83 : decode b_Model_calculate 83 = .ok (.iload 4, 2) := by decide +kernel
theorem d_Model_calculate_85 : decode b_Model_calculate 85 = .ok (.imul, 1) := by decide +kernel
theorem d_Model_calculate_86 : decode b_Model_calculate 86 = .ok (.goto 4, 3) := by decide +kernel
theorem d_Model_calculate_89 : decode b_Model_calculate 89 = .ok (.iload_n 3, 1) := by decide +kernel
theorem d_Model_calculate_90 : decode b_Model_calculate 90 = .ok (.ireturn, 1) := by decide +kernel
theorem d_Model_value_0 : decode b_Model_value 0 = .ok (.aload_n 0, 1) := by decide +kernel
theorem d_Model_value_1 : decode b_Model_value 1 = .ok (.getfield 128, 3) := by decide +kernel
theorem d_Model_value_4 : decode b_Model_value 4 = .ok (.ifCond .ne 5, 3) := by decide +kernel
theorem d_Model_value_7 : decode b_Model_value 7 = .ok (.iconst 0, 1) := by decide +kernel
theorem d_Model_value_8 : decode b_Model_value 8 = .ok (.ireturn, 1) := by decide +kernel
theorem d_Model_value_9 : decode b_Model_value 9 = .ok (.aload_n 0, 1) := by decide +kernel
theorem d_Model_value_10 : decode b_Model_value 10 = .ok (.getfield 37, 3) := by decide +kernel
theorem d_Model_value_13 : decode b_Model_value 13 = .ok (.aload_n 0, 1) := by decide +kernel
theorem d_Model_value_14 : decode b_Model_value 14 = .ok (.getfield 128, 3) := by decide +kernel
theorem d_Model_value_17 : decode b_Model_value 17 = .ok (.iconst 1, 1) := by decide +kernel
theorem d_Model_value_18 : decode b_Model_value 18 = .ok (.isub, 1) := by decide +kernel
theorem d_Model_value_19 : decode b_Model_value 19 = .ok (.iaload, 1) := by decide +kernel
theorem d_Model_value_20 : decode b_Model_value 20 = .ok (.istore_n 1, 1) := by decide +kernel
theorem d_Model_value_21 : decode b_Model_value 21 = .ok (.iload_n 1, 1) := by decide +kernel
theorem d_Model_value_22 : decode b_Model_value 22 = .ok (.aload_n 0, 1) := by decide +kernel
theorem d_Model_value_23 : decode b_Model_value 23 = .ok (.getfield 131, 3) := by decide +kernel
theorem d_Model_value_26 : decode b_Model_value 26 = .ok (.if_icmp .ge 94, 3) := by decide +kernel
theorem d_Model_value_29 : decode b_Model_value 29 = .ok (.aload_n 0, 1) := by decide +kernel
theorem d_Model_value_30 : decode b_Model_value 30 = .ok (.getfield 25, 3) := by decide +kernel
theorem d_Model_value_33 : decode b_Model_value 33 = .ok (.iload_n 1, 1) := by decide +kernel
theorem d_Model_value_34 : decode b_Model_value 34 = .ok (.iaload, 1) := by decide +kernel
theorem d_Model_value_35 : decode b_Model_value 35 = .ok (.invokestatic 120, 3) := by decide +kernel
theorem d_Model_value_38 : decode b_Model_value 38 = .ok (.istore_n 2, 1) := by decide +kernel
theorem d_Model_value_39 : decode b_Model_value 39 = .ok (.iload_n 1, 1) := by decide +kernel
theorem d_Model_value_40 : decode b_Model_value 40 = .ok (.iconst 1, 1) := by decide +kernel
theorem d_Model_value_41 : decode b_Model_value 41 = .ok (.isub, 1) := by decide +kernel
theorem d_Model_value_42 : decode b_Model_value 42 = .ok (.iload_n 2, 1) := by decide +kernel
theorem d_Model_value_43 : decode b_Model_value 43 = .ok (.iconst 1, 1) := by decide +kernel
theorem d_Model_value_44 : decode b_Model_value 44 = .ok (.if_icmp .le 14, 3) := by decide +kernel
theorem d_Model_value_47 : decode b_Model_value 47 = .ok (.aload_n 0, 1) := by decide +kernel
theorem d_Model_value_48 : decode b_Model_value 48 = .ok (.getfield 31, 3) := by decide +kernel
theorem d_Model_value_51 : decode b_Model_value 51 = .ok (.iload_n 1, 1) := by decide +kernel
theorem d_Model_value_52 : decode b_Model_value 52 = .ok (.iconst 1, 1) := by decide +kernel
theorem d_Model_value_53 : decode b_Model_value 53 = .ok (.isub, 1) := by decide +kernel
theorem d_Model_value_54 : decode b_Model_value 54 = .ok (.iaload, 1) := by decide +kernel
theorem d_Model_value_55 : decode b_Model_value 55 = .ok (.goto 4, 3) := by decide +kernel
theorem d_Model_value_58 : decode b_Model_value 58 = .ok (.iconst 0, 1) := by decide +kernel
theorem d_Model_value_59 : decode b_Model_value 59 = .ok (.isub, 1) := by decide +kernel
theorem d_Model_value_60 : decode b_Model_value 60 = .ok (.istore_n 3, 1) := by decide +kernel
theorem d_Model_value_61 : decode b_Model_value 61 = .ok (.aload_n 0, 1) := by decide +kernel
theorem d_Model_value_62 : decode b_Model_value 62 = .ok (.getfield 108, 3) := by decide +kernel
theorem d_Model_value_65 : decode b_Model_value 65 = .ok (.iload_n 1, 1) := by decide +kernel
theorem d_Model_value_66 : decode b_Model_value 66 = .ok (.aload_n 0, 1) := by decide +kernel
theorem d_Model_value_67 : decode b_Model_value 67 = .ok (.aload_n 0, 1) := by decide +kernel
theorem d_Model_value_68 : decode b_Model_value 68 = .ok (.getfield 25, 3) := by decide +kernel
theorem d_Model_value_71 : decode b_Model_value 71 = .ok (.iload_n 1, 1) := by decide +kernel
theorem d_Model_value_72 : decode b_Model_value 72 = .ok (.iaload, 1) := by decide +kernel
theorem d_Model_value_73 : decode b_Model_value 73 = .ok (.aload_n 0, 1) := by decide +kernel
theorem d_Model_value_74 : decode b_Model_value 74 = .ok (.getfield 28, 3) := by decide +kernel
theorem d_Model_value_77 : decode b_Model_value 77 = .ok (.iload_n 1, 1) := by decide +kernel
theorem d_Model_value_78 : decode b_Model_value 78 = .ok (.iaload, 1) := by decide +kernel
theorem d_Model_value_79 : decode b_Model_value 79 = .ok (.iload_n 2, 1) := by decide +kernel
theorem d_Model_value_80 : decode b_Model_value 80 = .ok (.ifCond .le 12, 3) := by decide +kernel
theorem d_Model_value_83 : decode b_Model_value 83 = .ok (.aload_n 0, 1) := by decide +kernel
theorem d_Model_value_84 : decode b_Model_value 84 = .ok (.getfield 108, 3) := by decide +kernel
theorem d_Model_value_87 : decode b_Model_value 87 = .ok (.iload_n 3, 1) := by decide +kernel
theorem d_Model_value_88 : decode b_Model_value 88 = .ok (.iaload, 1) := by decide +kernel
theorem d_Model_value_89 : decode b_Model_value 89 = .ok (.goto 4, 3) := by decide +kernel
theorem d_Model_value_92 : decode b_Model_value 92 = .ok (.iconst 0, 1) := by decide +kernel
theorem d_Model_value_93 : decode b_Model_value 93 = .ok (.iload_n 2, 1) := by decide +kernel
theorem d_Model_value_94 : decode b_Model_value 94 = .ok (.iconst 1, 1) := by decide +kernel
theorem d_Model_value_95 : decode b_Model_value 95 = .ok (.if_icmp .le 14, 3) := by decide +kernel
theorem d_Model_value_98 : decode b_Model_value 98 = .ok (.aload_n 0, 1) := by decide +kernel
theorem d_Model_value_99 : decode b_Model_value 99 = .ok (.getfield 108, 3) := by decide +kernel
theorem d_Model_value_102 : decode b_Model_value 102 = .ok (.iload_n 1, 1) := by decide +kernel
theorem d_Model_value_103 : decode b_Model_value 103 = .ok (.iconst 1, 1) := by decide +kernel
theorem d_Model_value_104 : decode b_Model_value 104 = .ok (.isub, 1) := by decide +kernel
theorem d_Model_value_105 : decode b_Model_value 105 = .ok (.iaload, 1) := by decide +kernel
theorem d_Model_value_106 : decode b_Model_value 106 = .ok (.goto 4, 3) := by decide +kernel
theorem d_Model_value_109 : decode b_Model_value 109 = .ok (.iconst 0, 1) := by decide +kernel
theorem d_Model_value_110 : decode b_Model_value 110 = .ok (.invokevirtual 189, 3) := by decide +kernel
theorem d_Model_value_113 : decode b_Model_value 113 = .ok (.iastore, 1) := by decide +kernel
theorem d_Model_value_114 : decode b_Model_value 114 = .ok (.iinc 1 1, 3) := by decide +kernel
theorem d_Model_value_117 : decode b_Model_value 117 = .ok (.goto (-96), 3) := by decide +kernel
theorem d_Model_value_120 : decode b_Model_value 120 = .ok (.aload_n 0, 1) := by decide +kernel
theorem d_Model_value_121 : decode b_Model_value 121 = .ok (.getfield 108, 3) := by decide +kernel
theorem d_Model_value_124 : decode b_Model_value 124 = .ok (.aload_n 0, 1) := by decide +kernel
theorem d_Model_value_125 : decode b_Model_value 125 = .ok (.getfield 131, 3) := by decide +kernel
theorem d_Model_value_128 : decode b_Model_value 128 = .ok (.iconst 1, 1) := by decide +kernel
theorem d_Model_value_129 : decode b_Model_value 129 = .ok (.isub, 1) := by decide +kernel
theorem d_Model_value_130 : decode b_Model_value 130 = .ok (.iaload, 1) := by decide +kernel
theorem d_Model_value_131 : decode b_Model_value 131 = .ok (.ireturn, 1) := by decide +kernel
end
section
/-! What stands at each place of the code. -/
theorem d_Law_law_0 : decode b_Law_law 0 = .ok (.new 7, 3) := by decide +kernel
theorem d_Law_law_3 : decode b_Law_law 3 = .ok (.dup, 1) := by decide +kernel
theorem d_Law_law_4 : decode b_Law_law 4 = .ok (.invokespecial 9, 3) := by decide +kernel
theorem d_Law_law_7 : decode b_Law_law 7 = .ok (.astore_n 1, 1) := by decide +kernel
theorem d_Law_law_8 : decode b_Law_law 8 = .ok (.new 10, 3) := by decide +kernel
theorem d_Law_law_11 : decode b_Law_law 11 = .ok (.dup, 1) := by decide +kernel
theorem d_Law_law_12 : decode b_Law_law 12 = .ok (.invokespecial 12, 3) := by decide +kernel
theorem d_Law_law_15 : decode b_Law_law 15 = .ok (.astore_n 2, 1) := by decide +kernel
theorem d_Law_law_16 : decode b_Law_law 16 = .ok (.iconst 0, 1) := by decide +kernel
theorem d_Law_law_17 : decode b_Law_law 17 = .ok (.istore_n 3, 1) := by decide +kernel
theorem d_Law_law_18 : decode b_Law_law 18 = .ok (.iload_n 3, 1) := by decide +kernel
theorem d_Law_law_19 : decode b_Law_law 19 = .ok (.aload_n 0, 1) := by decide +kernel
theorem d_Law_law_20 : decode b_Law_law 20 = .ok (.arraylength, 1) := by decide +kernel
theorem d_Law_law_21 : decode b_Law_law 21 = .ok (.bipush 6, 2) := by decide +kernel
theorem d_Law_law_23 : decode b_Law_law 23 = .ok (.isub, 1) := by decide +kernel
theorem d_Law_law_24 : decode b_Law_law 24 = .ok (.if_icmp .gt 487, 3) := by decide +kernel
theorem d_Law_law_27 : decode b_Law_law 27 = .ok (.aload_n 0, 1) := by decide +kernel
theorem d_Law_law_28 : decode b_Law_law 28 = .ok (.iload_n 3, 1) := by decide +kernel
theorem d_Law_law_29 : decode b_Law_law 29 = .ok (.iaload, 1) := by decide +kernel
theorem d_Law_law_30 : decode b_Law_law 30 = .ok (.bipush 31, 2) := by decide +kernel
theorem d_Law_law_32 : decode b_Law_law 32 = .ok (.iand, 1) := by decide +kernel
theorem d_Law_law_33 : decode b_Law_law 33 = .ok (.tableswitch 472 0 16 #[83, 146, 157, 170, 203, 216, 229, 242, 275, 308, 331, 354, 367, 400, 413, 446, 459], 83) := by decide +kernel
theorem d_Law_law_116 : decode b_Law_law 116 = .ok (.aload_n 1, 1) := by decide +kernel
theorem d_Law_law_117 : decode b_Law_law 117 = .ok (.aload_n 0, 1) := by decide +kernel
theorem d_Law_law_118 : decode b_Law_law 118 = .ok (.iload_n 3, 1) := by decide +kernel
theorem d_Law_law_119 : decode b_Law_law 119 = .ok (.iconst 1, 1) := by decide +kernel
theorem d_Law_law_120 : decode b_Law_law 120 = .ok (.iadd, 1) := by decide +kernel
theorem d_Law_law_121 : decode b_Law_law 121 = .ok (.iaload, 1) := by decide +kernel
theorem d_Law_law_122 : decode b_Law_law 122 = .ok (.aload_n 0, 1) := by decide +kernel
theorem d_Law_law_123 : decode b_Law_law 123 = .ok (.iload_n 3, 1) := by decide +kernel
theorem d_Law_law_124 : decode b_Law_law 124 = .ok (.iconst 2, 1) := by decide +kernel
theorem d_Law_law_125 : decode b_Law_law 125 = .ok (.iadd, 1) := by decide +kernel
theorem d_Law_law_126 : decode b_Law_law 126 = .ok (.iaload, 1) := by decide +kernel
theorem d_Law_law_127 : decode b_Law_law 127 = .ok (.aload_n 0, 1) := by decide +kernel
theorem d_Law_law_128 : decode b_Law_law 128 = .ok (.iload_n 3, 1) := by decide +kernel
theorem d_Law_law_129 : decode b_Law_law 129 = .ok (.iconst 3, 1) := by decide +kernel
theorem d_Law_law_130 : decode b_Law_law 130 = .ok (.iadd, 1) := by decide +kernel
theorem d_Law_law_131 : decode b_Law_law 131 = .ok (.iaload, 1) := by decide +kernel
theorem d_Law_law_132 : decode b_Law_law 132 = .ok (.aload_n 0, 1) := by decide +kernel
theorem d_Law_law_133 : decode b_Law_law 133 = .ok (.iload_n 3, 1) := by decide +kernel
theorem d_Law_law_134 : decode b_Law_law 134 = .ok (.iconst 4, 1) := by decide +kernel
theorem d_Law_law_135 : decode b_Law_law 135 = .ok (.iadd, 1) := by decide +kernel
theorem d_Law_law_136 : decode b_Law_law 136 = .ok (.iaload, 1) := by decide +kernel
theorem d_Law_law_137 : decode b_Law_law 137 = .ok (.aload_n 0, 1) := by decide +kernel
theorem d_Law_law_138 : decode b_Law_law 138 = .ok (.iload_n 3, 1) := by decide +kernel
theorem d_Law_law_139 : decode b_Law_law 139 = .ok (.iconst 5, 1) := by decide +kernel
theorem d_Law_law_140 : decode b_Law_law 140 = .ok (.iadd, 1) := by decide +kernel
theorem d_Law_law_141 : decode b_Law_law 141 = .ok (.iaload, 1) := by decide +kernel
theorem d_Law_law_142 : decode b_Law_law 142 = .ok (.invokevirtual 13, 3) := by decide +kernel
theorem d_Law_law_145 : decode b_Law_law 145 = .ok (.aload_n 2, 1) := by decide +kernel
theorem d_Law_law_146 : decode b_Law_law 146 = .ok (.aload_n 0, 1) := by decide +kernel
theorem d_Law_law_147 : decode b_Law_law 147 = .ok (.iload_n 3, 1) := by decide +kernel
theorem d_Law_law_148 : decode b_Law_law 148 = .ok (.iconst 1, 1) := by decide +kernel
theorem d_Law_law_149 : decode b_Law_law 149 = .ok (.iadd, 1) := by decide +kernel
theorem d_Law_law_150 : decode b_Law_law 150 = .ok (.iaload, 1) := by decide +kernel
theorem d_Law_law_151 : decode b_Law_law 151 = .ok (.aload_n 0, 1) := by decide +kernel
theorem d_Law_law_152 : decode b_Law_law 152 = .ok (.iload_n 3, 1) := by decide +kernel
theorem d_Law_law_153 : decode b_Law_law 153 = .ok (.iconst 2, 1) := by decide +kernel
theorem d_Law_law_154 : decode b_Law_law 154 = .ok (.iadd, 1) := by decide +kernel
theorem d_Law_law_155 : decode b_Law_law 155 = .ok (.iaload, 1) := by decide +kernel
theorem d_Law_law_156 : decode b_Law_law 156 = .ok (.aload_n 0, 1) := by decide +kernel
theorem d_Law_law_157 : decode b_Law_law 157 = .ok (.iload_n 3, 1) := by decide +kernel
theorem d_Law_law_158 : decode b_Law_law 158 = .ok (.iconst 3, 1) := by decide +kernel
theorem d_Law_law_159 : decode b_Law_law 159 = .ok (.iadd, 1) := by decide +kernel
theorem d_Law_law_160 : decode b_Law_law 160 = .ok (.iaload, 1) := by decide +kernel
theorem d_Law_law_161 : decode b_Law_law 161 = .ok (.aload_n 0, 1) := by decide +kernel
theorem d_Law_law_162 : decode b_Law_law 162 = .ok (.iload_n 3, 1) := by decide +kernel
theorem d_Law_law_163 : decode b_Law_law 163 = .ok (.iconst 4, 1) := by decide +kernel
theorem d_Law_law_164 : decode b_Law_law 164 = .ok (.iadd, 1) := by decide +kernel
theorem d_Law_law_165 : decode b_Law_law 165 = .ok (.iaload, 1) := by decide +kernel
theorem d_Law_law_166 : decode b_Law_law 166 = .ok (.aload_n 0, 1) := by decide +kernel
theorem d_Law_law_167 : decode b_Law_law 167 = .ok (.iload_n 3, 1) := by decide +kernel
theorem d_Law_law_168 : decode b_Law_law 168 = .ok (.iconst 5, 1) := by decide +kernel
theorem d_Law_law_169 : decode b_Law_law 169 = .ok (.iadd, 1) := by decide +kernel
theorem d_Law_law_170 : decode b_Law_law 170 = .ok (.iaload, 1) := by decide +kernel
theorem d_Law_law_171 : decode b_Law_law 171 = .ok (.invokevirtual 17, 3) := by decide +kernel
theorem d_Law_law_174 : decode b_Law_law 174 = .ok (.if_icmp .eq 331, 3) := by decide +kernel
theorem d_Law_law_177 : decode b_Law_law 177 = .ok (.iconst 0, 1) := by decide +kernel
theorem d_Law_law_178 : decode b_Law_law 178 = .ok (.ireturn, 1) := by decide +kernel
theorem d_Law_law_179 : decode b_Law_law 179 = .ok (.aload_n 1, 1) := by decide +kernel
theorem d_Law_law_180 : decode b_Law_law 180 = .ok (.invokevirtual 18, 3) := by decide +kernel
theorem d_Law_law_183 : decode b_Law_law 183 = .ok (.aload_n 2, 1) := by decide +kernel
theorem d_Law_law_184 : decode b_Law_law 184 = .ok (.invokevirtual 21, 3) := by decide +kernel
theorem d_Law_law_187 : decode b_Law_law 187 = .ok (.goto 318, 3) := by decide +kernel
theorem d_Law_law_190 : decode b_Law_law 190 = .ok (.aload_n 1, 1) := by decide +kernel
theorem d_Law_law_191 : decode b_Law_law 191 = .ok (.invokevirtual 22, 3) := by decide +kernel
theorem d_Law_law_194 : decode b_Law_law 194 = .ok (.aload_n 2, 1) := by decide +kernel
theorem d_Law_law_195 : decode b_Law_law 195 = .ok (.invokevirtual 26, 3) := by decide +kernel
theorem d_Law_law_198 : decode b_Law_law 198 = .ok (.if_icmp .eq 307, 3) := by decide +kernel
theorem d_Law_law_201 : decode b_Law_law 201 = .ok (.iconst 0, 1) := by decide +kernel
theorem d_Law_law_202 : decode b_Law_law 202 = .ok (.ireturn, 1) := by decide +kernel
theorem d_Law_law_203 : decode b_Law_law 203 = .ok (.aload_n 1, 1) := by decide +kernel
theorem d_Law_law_204 : decode b_Law_law 204 = .ok (.aload_n 0, 1) := by decide +kernel
theorem d_Law_law_205 : decode b_Law_law 205 = .ok (.iload_n 3, 1) := by decide +kernel
theorem d_Law_law_206 : decode b_Law_law 206 = .ok (.iconst 1, 1) := by decide +kernel
theorem d_Law_law_207 : decode b_Law_law 207 = .ok (.iadd, 1) := by decide +kernel
theorem d_Law_law_208 : decode b_Law_law 208 = .ok (.iaload, 1) := by decide +kernel
theorem d_Law_law_209 : decode b_Law_law 209 = .ok (.aload_n 0, 1) := by decide +kernel
theorem d_Law_law_210 : decode b_Law_law 210 = .ok (.iload_n 3, 1) := by decide +kernel
theorem d_Law_law_211 : decode b_Law_law 211 = .ok (.iconst 2, 1) := by decide +kernel
theorem d_Law_law_212 : decode b_Law_law 212 = .ok (.iadd, 1) := by decide +kernel
theorem d_Law_law_213 : decode b_Law_law 213 = .ok (.iaload, 1) := by decide +kernel
theorem d_Law_law_214 : decode b_Law_law 214 = .ok (.invokevirtual 27, 3) := by decide +kernel
theorem d_Law_law_217 : decode b_Law_law 217 = .ok (.aload_n 2, 1) := by decide +kernel
theorem d_Law_law_218 : decode b_Law_law 218 = .ok (.aload_n 0, 1) := by decide +kernel
theorem d_Law_law_219 : decode b_Law_law 219 = .ok (.iload_n 3, 1) := by decide +kernel
theorem d_Law_law_220 : decode b_Law_law 220 = .ok (.iconst 1, 1) := by decide +kernel
theorem d_Law_law_221 : decode b_Law_law 221 = .ok (.iadd, 1) := by decide +kernel
theorem d_Law_law_222 : decode b_Law_law 222 = .ok (.iaload, 1) := by decide +kernel
theorem d_Law_law_223 : decode b_Law_law 223 = .ok (.aload_n 0, 1) := by decide +kernel
theorem d_Law_law_224 : decode b_Law_law 224 = .ok (.iload_n 3, 1) := by decide +kernel
theorem d_Law_law_225 : decode b_Law_law 225 = .ok (.iconst 2, 1) := by decide +kernel
theorem d_Law_law_226 : decode b_Law_law 226 = .ok (.iadd, 1) := by decide +kernel
theorem d_Law_law_227 : decode b_Law_law 227 = .ok (.iaload, 1) := by decide +kernel
theorem d_Law_law_228 : decode b_Law_law 228 = .ok (.invokevirtual 31, 3) := by decide +kernel
theorem d_Law_law_231 : decode b_Law_law 231 = .ok (.if_icmp .eq 274, 3) := by decide +kernel
theorem d_Law_law_234 : decode b_Law_law 234 = .ok (.iconst 0, 1) := by decide +kernel
theorem d_Law_law_235 : decode b_Law_law 235 = .ok (.ireturn, 1) := by decide +kernel
theorem d_Law_law_236 : decode b_Law_law 236 = .ok (.aload_n 1, 1) := by decide +kernel
theorem d_Law_law_237 : decode b_Law_law 237 = .ok (.invokevirtual 32, 3) := by decide +kernel
theorem d_Law_law_240 : decode b_Law_law 240 = .ok (.aload_n 2, 1) := by decide +kernel
theorem d_Law_law_241 : decode b_Law_law 241 = .ok (.invokevirtual 36, 3) := by decide +kernel
theorem d_Law_law_244 : decode b_Law_law 244 = .ok (.if_icmp .eq 261, 3) := by decide +kernel
theorem d_Law_law_247 : decode b_Law_law 247 = .ok (.iconst 0, 1) := by decide +kernel
theorem d_Law_law_248 : decode b_Law_law 248 = .ok (.ireturn, 1) := by decide +kernel
theorem d_Law_law_249 : decode b_Law_law 249 = .ok (.aload_n 1, 1) := by decide +kernel
theorem d_Law_law_250 : decode b_Law_law 250 = .ok (.invokevirtual 37, 3) := by decide +kernel
theorem d_Law_law_253 : decode b_Law_law 253 = .ok (.aload_n 2, 1) := by decide +kernel
theorem d_Law_law_254 : decode b_Law_law 254 = .ok (.invokevirtual 40, 3) := by decide +kernel
theorem d_Law_law_257 : decode b_Law_law 257 = .ok (.if_icmp .eq 248, 3) := by decide +kernel
theorem d_Law_law_260 : decode b_Law_law 260 = .ok (.iconst 0, 1) := by decide +kernel
theorem d_Law_law_261 : decode b_Law_law 261 = .ok (.ireturn, 1) := by decide +kernel
theorem d_Law_law_262 : decode b_Law_law 262 = .ok (.aload_n 1, 1) := by decide +kernel
theorem d_Law_law_263 : decode b_Law_law 263 = .ok (.invokevirtual 41, 3) := by decide +kernel
theorem d_Law_law_266 : decode b_Law_law 266 = .ok (.aload_n 2, 1) := by decide +kernel
theorem d_Law_law_267 : decode b_Law_law 267 = .ok (.invokevirtual 44, 3) := by decide +kernel
theorem d_Law_law_270 : decode b_Law_law 270 = .ok (.if_icmp .eq 235, 3) := by decide +kernel
theorem d_Law_law_273 : decode b_Law_law 273 = .ok (.iconst 0, 1) := by decide +kernel
theorem d_Law_law_274 : decode b_Law_law 274 = .ok (.ireturn, 1) := by decide +kernel
theorem d_Law_law_275 : decode b_Law_law 275 = .ok (.aload_n 1, 1) := by decide +kernel
theorem d_Law_law_276 : decode b_Law_law 276 = .ok (.aload_n 0, 1) := by decide +kernel
theorem d_Law_law_277 : decode b_Law_law 277 = .ok (.iload_n 3, 1) := by decide +kernel
theorem d_Law_law_278 : decode b_Law_law 278 = .ok (.iconst 1, 1) := by decide +kernel
theorem d_Law_law_279 : decode b_Law_law 279 = .ok (.iadd, 1) := by decide +kernel
theorem d_Law_law_280 : decode b_Law_law 280 = .ok (.iaload, 1) := by decide +kernel
theorem d_Law_law_281 : decode b_Law_law 281 = .ok (.aload_n 0, 1) := by decide +kernel
theorem d_Law_law_282 : decode b_Law_law 282 = .ok (.iload_n 3, 1) := by decide +kernel
theorem d_Law_law_283 : decode b_Law_law 283 = .ok (.iconst 2, 1) := by decide +kernel
theorem d_Law_law_284 : decode b_Law_law 284 = .ok (.iadd, 1) := by decide +kernel
theorem d_Law_law_285 : decode b_Law_law 285 = .ok (.iaload, 1) := by decide +kernel
theorem d_Law_law_286 : decode b_Law_law 286 = .ok (.invokevirtual 45, 3) := by decide +kernel
theorem d_Law_law_289 : decode b_Law_law 289 = .ok (.aload_n 2, 1) := by decide +kernel
theorem d_Law_law_290 : decode b_Law_law 290 = .ok (.aload_n 0, 1) := by decide +kernel
theorem d_Law_law_291 : decode b_Law_law 291 = .ok (.iload_n 3, 1) := by decide +kernel
theorem d_Law_law_292 : decode b_Law_law 292 = .ok (.iconst 1, 1) := by decide +kernel
theorem d_Law_law_293 : decode b_Law_law 293 = .ok (.iadd, 1) := by decide +kernel
theorem d_Law_law_294 : decode b_Law_law 294 = .ok (.iaload, 1) := by decide +kernel
theorem d_Law_law_295 : decode b_Law_law 295 = .ok (.aload_n 0, 1) := by decide +kernel
theorem d_Law_law_296 : decode b_Law_law 296 = .ok (.iload_n 3, 1) := by decide +kernel
theorem d_Law_law_297 : decode b_Law_law 297 = .ok (.iconst 2, 1) := by decide +kernel
theorem d_Law_law_298 : decode b_Law_law 298 = .ok (.iadd, 1) := by decide +kernel
theorem d_Law_law_299 : decode b_Law_law 299 = .ok (.iaload, 1) := by decide +kernel
theorem d_Law_law_300 : decode b_Law_law 300 = .ok (.invokevirtual 48, 3) := by decide +kernel
theorem d_Law_law_303 : decode b_Law_law 303 = .ok (.if_icmp .eq 202, 3) := by decide +kernel
theorem d_Law_law_306 : decode b_Law_law 306 = .ok (.iconst 0, 1) := by decide +kernel
theorem d_Law_law_307 : decode b_Law_law 307 = .ok (.ireturn, 1) := by decide +kernel
theorem d_Law_law_308 : decode b_Law_law 308 = .ok (.aload_n 1, 1) := by decide +kernel
theorem d_Law_law_309 : decode b_Law_law 309 = .ok (.aload_n 0, 1) := by decide +kernel
theorem d_Law_law_310 : decode b_Law_law 310 = .ok (.iload_n 3, 1) := by decide +kernel
theorem d_Law_law_311 : decode b_Law_law 311 = .ok (.iconst 1, 1) := by decide +kernel
theorem d_Law_law_312 : decode b_Law_law 312 = .ok (.iadd, 1) := by decide +kernel
theorem d_Law_law_313 : decode b_Law_law 313 = .ok (.iaload, 1) := by decide +kernel
theorem d_Law_law_314 : decode b_Law_law 314 = .ok (.aload_n 0, 1) := by decide +kernel
theorem d_Law_law_315 : decode b_Law_law 315 = .ok (.iload_n 3, 1) := by decide +kernel
theorem d_Law_law_316 : decode b_Law_law 316 = .ok (.iconst 2, 1) := by decide +kernel
theorem d_Law_law_317 : decode b_Law_law 317 = .ok (.iadd, 1) := by decide +kernel
theorem d_Law_law_318 : decode b_Law_law 318 = .ok (.iaload, 1) := by decide +kernel
theorem d_Law_law_319 : decode b_Law_law 319 = .ok (.invokevirtual 49, 3) := by decide +kernel
theorem d_Law_law_322 : decode b_Law_law 322 = .ok (.aload_n 2, 1) := by decide +kernel
theorem d_Law_law_323 : decode b_Law_law 323 = .ok (.aload_n 0, 1) := by decide +kernel
theorem d_Law_law_324 : decode b_Law_law 324 = .ok (.iload_n 3, 1) := by decide +kernel
theorem d_Law_law_325 : decode b_Law_law 325 = .ok (.iconst 1, 1) := by decide +kernel
theorem d_Law_law_326 : decode b_Law_law 326 = .ok (.iadd, 1) := by decide +kernel
theorem d_Law_law_327 : decode b_Law_law 327 = .ok (.iaload, 1) := by decide +kernel
theorem d_Law_law_328 : decode b_Law_law 328 = .ok (.aload_n 0, 1) := by decide +kernel
theorem d_Law_law_329 : decode b_Law_law 329 = .ok (.iload_n 3, 1) := by decide +kernel
theorem d_Law_law_330 : decode b_Law_law 330 = .ok (.iconst 2, 1) := by decide +kernel
theorem d_Law_law_331 : decode b_Law_law 331 = .ok (.iadd, 1) := by decide +kernel
theorem d_Law_law_332 : decode b_Law_law 332 = .ok (.iaload, 1) := by decide +kernel
theorem d_Law_law_333 : decode b_Law_law 333 = .ok (.invokevirtual 52, 3) := by decide +kernel
theorem d_Law_law_336 : decode b_Law_law 336 = .ok (.if_icmp .eq 169, 3) := by decide +kernel
theorem d_Law_law_339 : decode b_Law_law 339 = .ok (.iconst 0, 1) := by decide +kernel
theorem d_Law_law_340 : decode b_Law_law 340 = .ok (.ireturn, 1) := by decide +kernel
theorem d_Law_law_341 : decode b_Law_law 341 = .ok (.aload_n 1, 1) := by decide +kernel
theorem d_Law_law_342 : decode b_Law_law 342 = .ok (.aload_n 0, 1) := by decide +kernel
theorem d_Law_law_343 : decode b_Law_law 343 = .ok (.iload_n 3, 1) := by decide +kernel
theorem d_Law_law_344 : decode b_Law_law 344 = .ok (.iconst 1, 1) := by decide +kernel
theorem d_Law_law_345 : decode b_Law_law 345 = .ok (.iadd, 1) := by decide +kernel
theorem d_Law_law_346 : decode b_Law_law 346 = .ok (.iaload, 1) := by decide +kernel
theorem d_Law_law_347 : decode b_Law_law 347 = .ok (.invokevirtual 53, 3) := by decide +kernel
theorem d_Law_law_350 : decode b_Law_law 350 = .ok (.aload_n 2, 1) := by decide +kernel
theorem d_Law_law_351 : decode b_Law_law 351 = .ok (.aload_n 0, 1) := by decide +kernel
theorem d_Law_law_352 : decode b_Law_law 352 = .ok (.iload_n 3, 1) := by decide +kernel
theorem d_Law_law_353 : decode b_Law_law 353 = .ok (.iconst 1, 1) := by decide +kernel
theorem d_Law_law_354 : decode b_Law_law 354 = .ok (.iadd, 1) := by decide +kernel
theorem d_Law_law_355 : decode b_Law_law 355 = .ok (.iaload, 1) := by decide +kernel
theorem d_Law_law_356 : decode b_Law_law 356 = .ok (.invokevirtual 57, 3) := by decide +kernel
theorem d_Law_law_359 : decode b_Law_law 359 = .ok (.if_icmp .eq 146, 3) := by decide +kernel
theorem d_Law_law_362 : decode b_Law_law 362 = .ok (.iconst 0, 1) := by decide +kernel
theorem d_Law_law_363 : decode b_Law_law 363 = .ok (.ireturn, 1) := by decide +kernel
theorem d_Law_law_364 : decode b_Law_law 364 = .ok (.aload_n 1, 1) := by decide +kernel
theorem d_Law_law_365 : decode b_Law_law 365 = .ok (.aload_n 0, 1) := by decide +kernel
theorem d_Law_law_366 : decode b_Law_law 366 = .ok (.iload_n 3, 1) := by decide +kernel
theorem d_Law_law_367 : decode b_Law_law 367 = .ok (.iconst 1, 1) := by decide +kernel
theorem d_Law_law_368 : decode b_Law_law 368 = .ok (.iadd, 1) := by decide +kernel
theorem d_Law_law_369 : decode b_Law_law 369 = .ok (.iaload, 1) := by decide +kernel
theorem d_Law_law_370 : decode b_Law_law 370 = .ok (.invokevirtual 58, 3) := by decide +kernel
theorem d_Law_law_373 : decode b_Law_law 373 = .ok (.aload_n 2, 1) := by decide +kernel
theorem d_Law_law_374 : decode b_Law_law 374 = .ok (.aload_n 0, 1) := by decide +kernel
theorem d_Law_law_375 : decode b_Law_law 375 = .ok (.iload_n 3, 1) := by decide +kernel
theorem d_Law_law_376 : decode b_Law_law 376 = .ok (.iconst 1, 1) := by decide +kernel
theorem d_Law_law_377 : decode b_Law_law 377 = .ok (.iadd, 1) := by decide +kernel
theorem d_Law_law_378 : decode b_Law_law 378 = .ok (.iaload, 1) := by decide +kernel
theorem d_Law_law_379 : decode b_Law_law 379 = .ok (.invokevirtual 62, 3) := by decide +kernel
theorem d_Law_law_382 : decode b_Law_law 382 = .ok (.if_icmp .eq 123, 3) := by decide +kernel
theorem d_Law_law_385 : decode b_Law_law 385 = .ok (.iconst 0, 1) := by decide +kernel
theorem d_Law_law_386 : decode b_Law_law 386 = .ok (.ireturn, 1) := by decide +kernel
theorem d_Law_law_387 : decode b_Law_law 387 = .ok (.aload_n 1, 1) := by decide +kernel
theorem d_Law_law_388 : decode b_Law_law 388 = .ok (.invokevirtual 63, 3) := by decide +kernel
theorem d_Law_law_391 : decode b_Law_law 391 = .ok (.aload_n 2, 1) := by decide +kernel
theorem d_Law_law_392 : decode b_Law_law 392 = .ok (.invokevirtual 66, 3) := by decide +kernel
theorem d_Law_law_395 : decode b_Law_law 395 = .ok (.if_icmp .eq 110, 3) := by decide +kernel
theorem d_Law_law_398 : decode b_Law_law 398 = .ok (.iconst 0, 1) := by decide +kernel
theorem d_Law_law_399 : decode b_Law_law 399 = .ok (.ireturn, 1) := by decide +kernel
theorem d_Law_law_400 : decode b_Law_law 400 = .ok (.aload_n 1, 1) := by decide +kernel
theorem d_Law_law_401 : decode b_Law_law 401 = .ok (.aload_n 0, 1) := by decide +kernel
theorem d_Law_law_402 : decode b_Law_law 402 = .ok (.iload_n 3, 1) := by decide +kernel
theorem d_Law_law_403 : decode b_Law_law 403 = .ok (.iconst 1, 1) := by decide +kernel
theorem d_Law_law_404 : decode b_Law_law 404 = .ok (.iadd, 1) := by decide +kernel
theorem d_Law_law_405 : decode b_Law_law 405 = .ok (.iaload, 1) := by decide +kernel
theorem d_Law_law_406 : decode b_Law_law 406 = .ok (.aload_n 0, 1) := by decide +kernel
theorem d_Law_law_407 : decode b_Law_law 407 = .ok (.iload_n 3, 1) := by decide +kernel
theorem d_Law_law_408 : decode b_Law_law 408 = .ok (.iconst 2, 1) := by decide +kernel
theorem d_Law_law_409 : decode b_Law_law 409 = .ok (.iadd, 1) := by decide +kernel
theorem d_Law_law_410 : decode b_Law_law 410 = .ok (.iaload, 1) := by decide +kernel
theorem d_Law_law_411 : decode b_Law_law 411 = .ok (.invokevirtual 67, 3) := by decide +kernel
theorem d_Law_law_414 : decode b_Law_law 414 = .ok (.aload_n 2, 1) := by decide +kernel
theorem d_Law_law_415 : decode b_Law_law 415 = .ok (.aload_n 0, 1) := by decide +kernel
theorem d_Law_law_416 : decode b_Law_law 416 = .ok (.iload_n 3, 1) := by decide +kernel
theorem d_Law_law_417 : decode b_Law_law 417 = .ok (.iconst 1, 1) := by decide +kernel
theorem d_Law_law_418 : decode b_Law_law 418 = .ok (.iadd, 1) := by decide +kernel
theorem d_Law_law_419 : decode b_Law_law 419 = .ok (.iaload, 1) := by decide +kernel
theorem d_Law_law_420 : decode b_Law_law 420 = .ok (.aload_n 0, 1) := by decide +kernel
theorem d_Law_law_421 : decode b_Law_law 421 = .ok (.iload_n 3, 1) := by decide +kernel
theorem d_Law_law_422 : decode b_Law_law 422 = .ok (.iconst 2, 1) := by decide +kernel
theorem d_Law_law_423 : decode b_Law_law 423 = .ok (.iadd, 1) := by decide +kernel
theorem d_Law_law_424 : decode b_Law_law 424 = .ok (.iaload, 1) := by decide +kernel
theorem d_Law_law_425 : decode b_Law_law 425 = .ok (.invokevirtual 70, 3) := by decide +kernel
theorem d_Law_law_428 : decode b_Law_law 428 = .ok (.if_icmp .eq 77, 3) := by decide +kernel
theorem d_Law_law_431 : decode b_Law_law 431 = .ok (.iconst 0, 1) := by decide +kernel
theorem d_Law_law_432 : decode b_Law_law 432 = .ok (.ireturn, 1) := by decide +kernel
theorem d_Law_law_433 : decode b_Law_law 433 = .ok (.aload_n 1, 1) := by decide +kernel
theorem d_Law_law_434 : decode b_Law_law 434 = .ok (.invokevirtual 71, 3) := by decide +kernel
theorem d_Law_law_437 : decode b_Law_law 437 = .ok (.aload_n 2, 1) := by decide +kernel
theorem d_Law_law_438 : decode b_Law_law 438 = .ok (.invokevirtual 74, 3) := by decide +kernel
theorem d_Law_law_441 : decode b_Law_law 441 = .ok (.if_icmp .eq 64, 3) := by decide +kernel
theorem d_Law_law_444 : decode b_Law_law 444 = .ok (.iconst 0, 1) := by decide +kernel
theorem d_Law_law_445 : decode b_Law_law 445 = .ok (.ireturn, 1) := by decide +kernel
theorem d_Law_law_446 : decode b_Law_law 446 = .ok (.aload_n 1, 1) := by decide +kernel
theorem d_Law_law_447 : decode b_Law_law 447 = .ok (.aload_n 0, 1) := by decide +kernel
theorem d_Law_law_448 : decode b_Law_law 448 = .ok (.iload_n 3, 1) := by decide +kernel
theorem d_Law_law_449 : decode b_Law_law 449 = .ok (.iconst 1, 1) := by decide +kernel
theorem d_Law_law_450 : decode b_Law_law 450 = .ok (.iadd, 1) := by decide +kernel
theorem d_Law_law_451 : decode b_Law_law 451 = .ok (.iaload, 1) := by decide +kernel
theorem d_Law_law_452 : decode b_Law_law 452 = .ok (.aload_n 0, 1) := by decide +kernel
theorem d_Law_law_453 : decode b_Law_law 453 = .ok (.iload_n 3, 1) := by decide +kernel
theorem d_Law_law_454 : decode b_Law_law 454 = .ok (.iconst 2, 1) := by decide +kernel
theorem d_Law_law_455 : decode b_Law_law 455 = .ok (.iadd, 1) := by decide +kernel
theorem d_Law_law_456 : decode b_Law_law 456 = .ok (.iaload, 1) := by decide +kernel
theorem d_Law_law_457 : decode b_Law_law 457 = .ok (.invokevirtual 75, 3) := by decide +kernel
theorem d_Law_law_460 : decode b_Law_law 460 = .ok (.aload_n 2, 1) := by decide +kernel
theorem d_Law_law_461 : decode b_Law_law 461 = .ok (.aload_n 0, 1) := by decide +kernel
theorem d_Law_law_462 : decode b_Law_law 462 = .ok (.iload_n 3, 1) := by decide +kernel
theorem d_Law_law_463 : decode b_Law_law 463 = .ok (.iconst 1, 1) := by decide +kernel
theorem d_Law_law_464 : decode b_Law_law 464 = .ok (.iadd, 1) := by decide +kernel
theorem d_Law_law_465 : decode b_Law_law 465 = .ok (.iaload, 1) := by decide +kernel
theorem d_Law_law_466 : decode b_Law_law 466 = .ok (.aload_n 0, 1) := by decide +kernel
theorem d_Law_law_467 : decode b_Law_law 467 = .ok (.iload_n 3, 1) := by decide +kernel
theorem d_Law_law_468 : decode b_Law_law 468 = .ok (.iconst 2, 1) := by decide +kernel
theorem d_Law_law_469 : decode b_Law_law 469 = .ok (.iadd, 1) := by decide +kernel
theorem d_Law_law_470 : decode b_Law_law 470 = .ok (.iaload, 1) := by decide +kernel
theorem d_Law_law_471 : decode b_Law_law 471 = .ok (.invokevirtual 79, 3) := by decide +kernel
theorem d_Law_law_474 : decode b_Law_law 474 = .ok (.if_icmp .eq 31, 3) := by decide +kernel
theorem d_Law_law_477 : decode b_Law_law 477 = .ok (.iconst 0, 1) := by decide +kernel
theorem d_Law_law_478 : decode b_Law_law 478 = .ok (.ireturn, 1) := by decide +kernel
theorem d_Law_law_479 : decode b_Law_law 479 = .ok (.aload_n 1, 1) := by decide +kernel
theorem d_Law_law_480 : decode b_Law_law 480 = .ok (.invokevirtual 80, 3) := by decide +kernel
theorem d_Law_law_483 : decode b_Law_law 483 = .ok (.aload_n 2, 1) := by decide +kernel
theorem d_Law_law_484 : decode b_Law_law 484 = .ok (.invokevirtual 83, 3) := by decide +kernel
theorem d_Law_law_487 : decode b_Law_law 487 = .ok (.if_icmp .eq 18, 3) := by decide +kernel
theorem d_Law_law_490 : decode b_Law_law 490 = .ok (.iconst 0, 1) := by decide +kernel
theorem d_Law_law_491 : decode b_Law_law 491 = .ok (.ireturn, 1) := by decide +kernel
theorem d_Law_law_492 : decode b_Law_law 492 = .ok (.aload_n 1, 1) := by decide +kernel
theorem d_Law_law_493 : decode b_Law_law 493 = .ok (.invokevirtual 84, 3) := by decide +kernel
theorem d_Law_law_496 : decode b_Law_law 496 = .ok (.aload_n 2, 1) := by decide +kernel
theorem d_Law_law_497 : decode b_Law_law 497 = .ok (.invokevirtual 87, 3) := by decide +kernel
theorem d_Law_law_500 : decode b_Law_law 500 = .ok (.if_icmp .eq 5, 3) := by decide +kernel
theorem d_Law_law_503 : decode b_Law_law 503 = .ok (.iconst 0, 1) := by decide +kernel
theorem d_Law_law_504 : decode b_Law_law 504 = .ok (.ireturn, 1) := by decide +kernel
theorem d_Law_law_505 : decode b_Law_law 505 = .ok (.iinc 3 6, 3) := by decide +kernel
theorem d_Law_law_508 : decode b_Law_law 508 = .ok (.goto (-490), 3) := by decide +kernel
theorem d_Law_law_511 : decode b_Law_law 511 = .ok (.iconst 1, 1) := by decide +kernel
theorem d_Law_law_512 : decode b_Law_law 512 = .ok (.ireturn, 1) := by decide +kernel
end
section
/-! The least costs of a node out of those of its kids: what both sides work out, as one relation with one answer. Kinds are 0 .. 3; mx_far stands for 'no cover'. A rule is (kind, op, a, b, cost). -/
def mx_far : Nat := 1125899906842624
abbrev mx_R : Type := Nat → Nat × Nat × Nat × Nat × Nat
def mx_th (rl : mx_R) (o : Nat) (lf rt g : Nat → Nat) (r : Nat) : Nat :=
  if (rl r).2.1 = 8 then (rl r).2.2.2.2 + g (rl r).2.2.1
  else if (rl r).2.1 = o then (rl r).2.2.2.2 + (if 0 < zz_kd o then lf (rl r).2.2.1 else 0) + (if 1 < zz_kd o then rt (rl r).2.2.2.1 else 0)
  else mx_far
def mx_ok (rl : mx_R) (R : Nat) : Prop := ∀ r, r < R → (rl r).1 < 4 ∧ (rl r).2.1 ≤ 8 ∧ (rl r).2.2.1 < 4 ∧ (rl r).2.2.2.1 < 4 ∧ (rl r).2.2.2.2 ≤ 9 ∧ ((rl r).2.1 = 8 → 1 ≤ (rl r).2.2.2.2)
def mx_Sol (rl : mx_R) (R o : Nat) (lf rt g : Nat → Nat) : Prop :=
  (∀ k, k < 4 → g k ≤ mx_far) ∧ (∀ r, r < R → g (rl r).1 ≤ mx_th rl o lf rt g r) ∧ ∀ k, k < 4 → g k < mx_far → ∃ r, r < R ∧ (rl r).1 = k ∧ mx_th rl o lf rt g r = g k
def mx_Lab (rl : mx_R) (R o : Nat) (lf rt g q : Nat → Nat) : Prop :=
  mx_Sol rl R o lf rt g ∧ ∀ k, k < 4 → (g k < mx_far → q k < R ∧ (rl (q k)).1 = k ∧ mx_th rl o lf rt g (q k) = g k ∧ ∀ r, r < R → (rl r).1 = k → mx_th rl o lf rt g r = g k → q k ≤ r) ∧ (¬ g k < mx_far → q k = 24)
section MX
variable {rl : mx_R} {R o : Nat} {lf rt g g' q q' : Nat → Nat}
theorem mx_th_ch {r : Nat} (h : (rl r).2.1 = 8) : mx_th rl o lf rt g r = (rl r).2.2.2.2 + g (rl r).2.2.1 := by
  rw [mx_th, if_pos h]
theorem mx_th_op {r : Nat} (h : (rl r).2.1 ≠ 8) : mx_th rl o lf rt g r = mx_th rl o lf rt g' r := by
  rw [mx_th, mx_th, if_neg h, if_neg h]
theorem mx_th_mono (hok : mx_ok rl R) {r : Nat} (hr : r < R) (h : ∀ k, k < 4 → g k ≤ g' k) : mx_th rl o lf rt g r ≤ mx_th rl o lf rt g' r := by
  by_cases h8 : (rl r).2.1 = 8
  · rw [mx_th_ch h8, mx_th_ch h8]
    have := h _ (hok r hr).2.2.1
    omega
  · rw [mx_th_op (g' := g') h8]
    exact Nat.le_refl _
theorem mx_th_congr (hok : mx_ok rl R) {r : Nat} (hr : r < R) (h : ∀ k, k < 4 → g k = g' k) : mx_th rl o lf rt g r = mx_th rl o lf rt g' r :=
  Nat.le_antisymm (mx_th_mono hok hr (fun k hk => Nat.le_of_eq (h k hk))) (mx_th_mono hok hr (fun k hk => Nat.le_of_eq (h k hk).symm))
theorem mx_sol_le (hok : mx_ok rl R) (h : mx_Sol rl R o lf rt g) (h' : mx_Sol rl R o lf rt g') : ∀ v k, k < 4 → g k = v → g k < mx_far → g' k ≤ g k := by
  intro v
  induction v using Nat.strongRecOn with
  | ind v ih =>
    intro k hk hv hf
    obtain ⟨r, hr, hm, ht⟩ := h.2.2 k hk hf
    have h1 := h'.2.1 r hr
    rw [hm] at h1
    by_cases h8 : (rl r).2.1 = 8
    · rw [mx_th_ch h8] at ht h1
      have hp := (hok r hr).2.2.2.2.2 h8
      have hj := (hok r hr).2.2.1
      have := ih (g (rl r).2.2.1) (by omega) _ hj rfl (by omega)
      omega
    · rw [mx_th_op (g' := g) h8] at h1
      omega
theorem mx_sol_uniq (hok : mx_ok rl R) (h : mx_Sol rl R o lf rt g) (h' : mx_Sol rl R o lf rt g') (k : Nat) (hk : k < 4) : g k = g' k := by
  have a1 := mx_sol_le hok h h' (g k) k hk rfl
  have a2 := mx_sol_le hok h' h (g' k) k hk rfl
  have b1 := h.1 k hk
  have b2 := h'.1 k hk
  by_cases c1 : g k < mx_far
  · have := a1 c1
    have := a2 (by omega)
    omega
  · by_cases c2 : g' k < mx_far
    · have := a2 c2
      omega
    · omega
theorem mx_lab_uniq (hok : mx_ok rl R) (h : mx_Lab rl R o lf rt g q) (h' : mx_Lab rl R o lf rt g' q') (k : Nat) (hk : k < 4) : g k = g' k ∧ q k = q' k := by
  have e := mx_sol_uniq hok h.1 h'.1
  refine ⟨e k hk, ?_⟩
  by_cases c1 : g k < mx_far
  · obtain ⟨x1, x2, x3, x4⟩ := (h.2 k hk).1 c1
    obtain ⟨y1, y2, y3, y4⟩ := (h'.2 k hk).1 (by rw [← e k hk]; exact c1)
    have z1 := x4 (q' k) y1 y2 (by rw [mx_th_congr hok y1 e, y3, e k hk])
    have z2 := y4 (q k) x1 x2 (by rw [← mx_th_congr hok x1 e, x3, e k hk])
    omega
  · rw [(h.2 k hk).2 c1, (h'.2 k hk).2 (by rw [← e k hk]; exact c1)]
/-- one turn over the rules that P takes, in their order -/
def mx_sw (rl : mx_R) (o : Nat) (lf rt : Nat → Nat) (P : Nat → Bool) (g0 : Nat → Nat) : Nat → Nat → Nat
  | 0 => g0
  | n + 1 => fun k => if P n = true ∧ k = (rl n).1 ∧ mx_th rl o lf rt (mx_sw rl o lf rt P g0 n) n < mx_sw rl o lf rt P g0 n k then mx_th rl o lf rt (mx_sw rl o lf rt P g0 n) n else mx_sw rl o lf rt P g0 n k
variable {P : Nat → Bool} {g0 : Nat → Nat}
theorem mx_sw_s (n k : Nat) : mx_sw rl o lf rt P g0 (n + 1) k = if P n = true ∧ k = (rl n).1 ∧ mx_th rl o lf rt (mx_sw rl o lf rt P g0 n) n < mx_sw rl o lf rt P g0 n k then mx_th rl o lf rt (mx_sw rl o lf rt P g0 n) n else mx_sw rl o lf rt P g0 n k := rfl
theorem mx_sw_dec (n k : Nat) : mx_sw rl o lf rt P g0 (n + 1) k ≤ mx_sw rl o lf rt P g0 n k := by
  rw [mx_sw_s]
  split
  · omega
  · exact Nat.le_refl _
theorem mx_sw_le {n n' : Nat} (h : n ≤ n') (k : Nat) : mx_sw rl o lf rt P g0 n' k ≤ mx_sw rl o lf rt P g0 n k := by
  induction h with
  | refl => exact Nat.le_refl _
  | step _ ih => exact Nat.le_trans (mx_sw_dec _ k) ih
theorem mx_sw_le0 (n k : Nat) : mx_sw rl o lf rt P g0 n k ≤ g0 k := mx_sw_le (Nat.zero_le n) k
theorem mx_sw_a {n r : Nat} (h : r < n) (hP : P r = true) : mx_sw rl o lf rt P g0 n (rl r).1 ≤ mx_th rl o lf rt (mx_sw rl o lf rt P g0 r) r := by
  refine Nat.le_trans (mx_sw_le (show r + 1 ≤ n from h) _) ?_
  rw [mx_sw_s]
  split
  · exact Nat.le_refl _
  · rename_i hn
    exact Nat.le_of_not_lt (fun h2 => hn ⟨hP, rfl, h2⟩)
theorem mx_sw_b (n k : Nat) : mx_sw rl o lf rt P g0 n k = g0 k ∨ ∃ r, r < n ∧ P r = true ∧ (rl r).1 = k ∧ mx_sw rl o lf rt P g0 n k = mx_th rl o lf rt (mx_sw rl o lf rt P g0 r) r := by
  induction n with
  | zero => exact Or.inl rfl
  | succ n ih =>
    rw [mx_sw_s]
    split
    · rename_i hn
      exact Or.inr ⟨n, Nat.lt_succ_self n, hn.1, hn.2.1.symm, rfl⟩
    · cases ih with
      | inl h => exact Or.inl h
      | inr h =>
        obtain ⟨r, h1, h2⟩ := h
        exact Or.inr ⟨r, Nat.lt_succ_of_lt h1, h2⟩
/-- the chain of changes: what changes in a turn rests on what changed in the turn before -/
theorem mx_desc {a0 a1 a2 : Nat → Nat} (hok : mx_ok rl R) (h2 : ∀ r, r < R → (rl r).2.1 = 8 → a1 (rl r).1 ≤ (rl r).2.2.2.2 + a0 (rl r).2.2.1) (l1 : ∀ k, k < 4 → a1 k ≤ a0 k) (l2 : ∀ k, k < 4 → a2 k ≤ a1 k) (h3 : ∀ k, k < 4 → a2 k < a1 k → ∃ r, r < R ∧ (rl r).2.1 = 8 ∧ (rl r).1 = k ∧ (rl r).2.2.2.2 + a2 (rl r).2.2.1 ≤ a2 k) : ∀ v k, k < 4 → a2 k = v → a2 k < a1 k → ∃ j, j < 4 ∧ a1 j < a0 j ∧ a2 j = a1 j ∧ a2 j < a2 k := by
  intro v
  induction v using Nat.strongRecOn with
  | ind v ih =>
    intro k hk hv hc
    obtain ⟨r, hr, h8, hm, ht⟩ := h3 k hk hc
    have hj := (hok r hr).2.2.1
    have hp := (hok r hr).2.2.2.2.2 h8
    have e2 := h2 r hr h8
    rw [hm] at e2
    have m1 := l1 _ hj
    have m2 := l2 _ hj
    by_cases c1 : a2 (rl r).2.2.1 < a1 (rl r).2.2.1
    · obtain ⟨j, j1, j2, j3, j4⟩ := ih (a2 (rl r).2.2.1) (by omega) _ hj rfl c1
      exact ⟨j, j1, j2, j3, by omega⟩
    · by_cases c2 : a1 (rl r).2.2.1 < a0 (rl r).2.2.1
      · exact ⟨_, hj, c2, by omega, by omega⟩
      · exfalso
        omega
/-- what is changed by the third turn is above all others -/
theorem mx_top {d0 d1 d2 d3 : Nat → Nat} (hok : mx_ok rl R)
    (l1 : ∀ k, k < 4 → d1 k ≤ d0 k) (l2 : ∀ k, k < 4 → d2 k ≤ d1 k) (l3 : ∀ k, k < 4 → d3 k ≤ d2 k)
    (e1 : ∀ r, r < R → (rl r).2.1 = 8 → d1 (rl r).1 ≤ (rl r).2.2.2.2 + d0 (rl r).2.2.1)
    (e2 : ∀ r, r < R → (rl r).2.1 = 8 → d2 (rl r).1 ≤ (rl r).2.2.2.2 + d1 (rl r).2.2.1)
    (c1 : ∀ k, k < 4 → d1 k < d0 k → ∃ r, r < R ∧ (rl r).2.1 = 8 ∧ (rl r).1 = k ∧ (rl r).2.2.2.2 + d1 (rl r).2.2.1 ≤ d1 k)
    (c2 : ∀ k, k < 4 → d2 k < d1 k → ∃ r, r < R ∧ (rl r).2.1 = 8 ∧ (rl r).1 = k ∧ (rl r).2.2.2.2 + d2 (rl r).2.2.1 ≤ d2 k)
    (c3 : ∀ k, k < 4 → d3 k < d2 k → ∃ r, r < R ∧ (rl r).2.1 = 8 ∧ (rl r).1 = k ∧ (rl r).2.2.2.2 + d3 (rl r).2.2.1 ≤ d3 k)
    {j k : Nat} (hj : j < 4) (hk : k < 4) (hc : d3 j < d2 j) (hjk : d3 j < d3 k) : False := by
  obtain ⟨k2, q2, x1, x2, x3⟩ := mx_desc hok e2 l2 l3 c3 (d3 j) j hj rfl hc
  obtain ⟨k1, q1, y1, y2, y3⟩ := mx_desc hok e1 l1 l2 c2 (d2 k2) k2 q2 rfl x1
  obtain ⟨r, hr, h8, hm, ht⟩ := c1 k1 q1 y1
  have q0 := (hok r hr).2.2.1
  have hp := (hok r hr).2.2.2.2.2 h8
  generalize (rl r).2.2.1 = k0 at q0 ht
  have z1 : d1 k0 < d1 k1 := by omega
  have a1 := l2 k0 q0
  have a2 := l3 k0 q0
  have a3 := l3 k1 q1
  have n1 : k0 ≠ k1 := fun h => by subst h; omega
  have n2 : k0 ≠ k2 := fun h => by subst h; omega
  have n3 : k0 ≠ j := fun h => by subst h; omega
  have n4 : k0 ≠ k := fun h => by subst h; omega
  have n5 : k1 ≠ k2 := fun h => by subst h; omega
  have n6 : k1 ≠ j := fun h => by subst h; omega
  have n7 : k1 ≠ k := fun h => by subst h; omega
  have n8 : k2 ≠ j := fun h => by subst h; omega
  have n9 : k2 ≠ k := fun h => by subst h; omega
  have n0 : j ≠ k := fun h => by subst h; omega
  omega
/-- a fourth turn changes nothing -/
theorem mx_stop {d0 d1 d2 d3 d4 : Nat → Nat} (hok : mx_ok rl R)
    (l1 : ∀ k, k < 4 → d1 k ≤ d0 k) (l2 : ∀ k, k < 4 → d2 k ≤ d1 k) (l3 : ∀ k, k < 4 → d3 k ≤ d2 k) (l4 : ∀ k, k < 4 → d4 k ≤ d3 k)
    (e1 : ∀ r, r < R → (rl r).2.1 = 8 → d1 (rl r).1 ≤ (rl r).2.2.2.2 + d0 (rl r).2.2.1)
    (e2 : ∀ r, r < R → (rl r).2.1 = 8 → d2 (rl r).1 ≤ (rl r).2.2.2.2 + d1 (rl r).2.2.1)
    (e3 : ∀ r, r < R → (rl r).2.1 = 8 → d3 (rl r).1 ≤ (rl r).2.2.2.2 + d2 (rl r).2.2.1)
    (c1 : ∀ k, k < 4 → d1 k < d0 k → ∃ r, r < R ∧ (rl r).2.1 = 8 ∧ (rl r).1 = k ∧ (rl r).2.2.2.2 + d1 (rl r).2.2.1 ≤ d1 k)
    (c2 : ∀ k, k < 4 → d2 k < d1 k → ∃ r, r < R ∧ (rl r).2.1 = 8 ∧ (rl r).1 = k ∧ (rl r).2.2.2.2 + d2 (rl r).2.2.1 ≤ d2 k)
    (c3 : ∀ k, k < 4 → d3 k < d2 k → ∃ r, r < R ∧ (rl r).2.1 = 8 ∧ (rl r).1 = k ∧ (rl r).2.2.2.2 + d3 (rl r).2.2.1 ≤ d3 k)
    (c4 : ∀ k, k < 4 → d4 k < d3 k → ∃ r, r < R ∧ (rl r).2.1 = 8 ∧ (rl r).1 = k ∧ (rl r).2.2.2.2 + d4 (rl r).2.2.1 ≤ d4 k)
    (k : Nat) (hk : k < 4) : d4 k = d3 k := by
  have := l4 k hk
  by_cases hc : d4 k < d3 k
  · exfalso
    obtain ⟨k3, q3, x1, x2, x3⟩ := mx_desc hok e3 l3 l4 c4 (d4 k) k hk rfl hc
    exact mx_top hok l1 l2 l3 e1 e2 c1 c2 c3 q3 hk x1 (by omega)
  · omega
end MX
end
section
/-! Five turns over all rules (the reference), and one over the operator's rules and three over the chain rules with their choices (the class), come to mx_Lab. -/
section MP
variable {rl : mx_R} {R o : Nat} {lf rt g g' q q' g0 : Nat → Nat} {P : Nat → Bool}
def mp_G (rl : mx_R) (R o : Nat) (lf rt : Nat → Nat) : Nat → Nat → Nat
  | 0 => fun _ => mx_far
  | t + 1 => mx_sw rl o lf rt (fun _ => true) (mp_G rl R o lf rt t) R
theorem mp_G_le (t k : Nat) : mp_G rl R o lf rt (t + 1) k ≤ mp_G rl R o lf rt t k := mx_sw_le0 R k
theorem mp_G_e (hok : mx_ok rl R) (t r : Nat) (hr : r < R) : mp_G rl R o lf rt (t + 1) (rl r).1 ≤ mx_th rl o lf rt (mp_G rl R o lf rt t) r :=
  Nat.le_trans (mx_sw_a hr rfl) (mx_th_mono hok hr (fun k _ => mx_sw_le0 r k))
theorem mp_G_c (hok : mx_ok rl R) (t k : Nat) (hc : mp_G rl R o lf rt (t + 1 + 1) k < mp_G rl R o lf rt (t + 1) k) : ∃ r, r < R ∧ (rl r).2.1 = 8 ∧ (rl r).1 = k ∧ (rl r).2.2.2.2 + mp_G rl R o lf rt (t + 1 + 1) (rl r).2.2.1 ≤ mp_G rl R o lf rt (t + 1 + 1) k := by
  have hb := mx_sw_b (rl := rl) (o := o) (lf := lf) (rt := rt) (P := fun _ => true) (g0 := mp_G rl R o lf rt (t + 1)) R k
  have hd : mp_G rl R o lf rt (t + 1 + 1) k = mx_sw rl o lf rt (fun _ => true) (mp_G rl R o lf rt (t + 1)) R k := rfl
  cases hb with
  | inl h => omega
  | inr h =>
    obtain ⟨r, hr, -, hm, ht⟩ := h
    by_cases h8 : (rl r).2.1 = 8
    · refine ⟨r, hr, h8, hm, ?_⟩
      rw [mx_th_ch h8] at ht
      have := mx_sw_le (rl := rl) (o := o) (lf := lf) (rt := rt) (P := fun _ => true) (g0 := mp_G rl R o lf rt (t + 1)) (Nat.le_of_lt hr) (rl r).2.2.1
      rw [hd, ht]
      exact Nat.add_le_add_left this _
    · have h1 := mp_G_e (rl := rl) (o := o) (lf := lf) (rt := rt) hok t r hr
      rw [mx_th_op (g' := mx_sw rl o lf rt (fun _ => true) (mp_G rl R o lf rt (t + 1)) r) h8, hm] at h1
      omega
theorem mp_G_at (hok : mx_ok rl R) (t k : Nat) : mp_G rl R o lf rt t k = mx_far ∨ ∃ r, r < R ∧ (rl r).1 = k ∧ mx_th rl o lf rt (mp_G rl R o lf rt t) r ≤ mp_G rl R o lf rt t k := by
  induction t with
  | zero => exact Or.inl rfl
  | succ t ih =>
    have hb := mx_sw_b (rl := rl) (o := o) (lf := lf) (rt := rt) (P := fun _ => true) (g0 := mp_G rl R o lf rt t) R k
    have hd : mp_G rl R o lf rt (t + 1) k = mx_sw rl o lf rt (fun _ => true) (mp_G rl R o lf rt t) R k := rfl
    cases hb with
    | inl h =>
      cases ih with
      | inl i => exact Or.inl (by omega)
      | inr i =>
        obtain ⟨r, hr, hm, ht⟩ := i
        refine Or.inr ⟨r, hr, hm, ?_⟩
        rw [hd, h]
        exact Nat.le_trans (mx_th_mono hok hr (fun k _ => mp_G_le t k)) ht
    | inr h =>
      obtain ⟨r, hr, -, hm, ht⟩ := h
      refine Or.inr ⟨r, hr, hm, ?_⟩
      rw [hd, ht]
      exact mx_th_mono hok hr (fun k _ => mx_sw_le (Nat.le_of_lt hr) k)
theorem mp_G_far (t k : Nat) : mp_G rl R o lf rt t k ≤ mx_far := by
  induction t with
  | zero => exact Nat.le_refl _
  | succ t ih => exact Nat.le_trans (mp_G_le t k) ih
/-- the reference's five turns -/
theorem mp_ref (hok : mx_ok rl R) : mx_Sol rl R o lf rt (mp_G rl R o lf rt 5) := by
  have st : ∀ k, k < 4 → mp_G rl R o lf rt 5 k = mp_G rl R o lf rt 4 k := mx_stop hok
    (fun k _ => mp_G_le 1 k) (fun k _ => mp_G_le 2 k) (fun k _ => mp_G_le 3 k) (fun k _ => mp_G_le 4 k)
    (fun r hr h8 => by rw [← mx_th_ch (o := o) (lf := lf) (rt := rt) h8]; exact mp_G_e hok 1 r hr)
    (fun r hr h8 => by rw [← mx_th_ch (o := o) (lf := lf) (rt := rt) h8]; exact mp_G_e hok 2 r hr)
    (fun r hr h8 => by rw [← mx_th_ch (o := o) (lf := lf) (rt := rt) h8]; exact mp_G_e hok 3 r hr)
    (fun k _ h => mp_G_c hok 0 k h) (fun k _ h => mp_G_c hok 1 k h) (fun k _ h => mp_G_c hok 2 k h) (fun k _ h => mp_G_c hok 3 k h)
  have cl : ∀ r, r < R → mp_G rl R o lf rt 5 (rl r).1 ≤ mx_th rl o lf rt (mp_G rl R o lf rt 5) r := fun r hr => by
    rw [mx_th_congr hok hr st]
    exact mp_G_e hok 4 r hr
  refine ⟨fun k _ => mp_G_far 5 k, cl, fun k hk hf => ?_⟩
  cases mp_G_at (rl := rl) (R := R) (o := o) (lf := lf) (rt := rt) hok 5 k with
  | inl h => omega
  | inr h =>
    obtain ⟨r, hr, hm, ht⟩ := h
    have := cl r hr
    rw [hm] at this
    exact ⟨r, hr, hm, by omega⟩
/-- the reference's choices: from the last rule down, the one that gives the least cost is taken -/
def mp_pk (rl : mx_R) (o : Nat) (lf rt g : Nat → Nat) (R : Nat) : Nat → Nat → Nat
  | 0 => fun _ => 24
  | n + 1 => fun k => if k = (rl (R - 1 - n)).1 ∧ g k < mx_far ∧ mx_th rl o lf rt g (R - 1 - n) = g k then R - 1 - n else mp_pk rl o lf rt g R n k
theorem mp_pk_s (n k : Nat) : mp_pk rl o lf rt g R (n + 1) k = if k = (rl (R - 1 - n)).1 ∧ g k < mx_far ∧ mx_th rl o lf rt g (R - 1 - n) = g k then R - 1 - n else mp_pk rl o lf rt g R n k := rfl
theorem mp_pk_is (n : Nat) (hn : n ≤ R) (k : Nat) : (mp_pk rl o lf rt g R n k = 24 ∧ ∀ r, R - n ≤ r → r < R → (rl r).1 = k → g k < mx_far → mx_th rl o lf rt g r ≠ g k) ∨ (R - n ≤ mp_pk rl o lf rt g R n k ∧ mp_pk rl o lf rt g R n k < R ∧ (rl (mp_pk rl o lf rt g R n k)).1 = k ∧ g k < mx_far ∧ mx_th rl o lf rt g (mp_pk rl o lf rt g R n k) = g k ∧ ∀ r, R - n ≤ r → r < R → (rl r).1 = k → mx_th rl o lf rt g r = g k → mp_pk rl o lf rt g R n k ≤ r) := by
  induction n with
  | zero => exact Or.inl ⟨rfl, fun r h1 h2 => by omega⟩
  | succ n ih =>
    have ih := ih (by omega)
    rw [mp_pk_s]
    split
    · rename_i hc
      refine Or.inr ⟨by omega, by omega, hc.1.symm, hc.2.1, hc.2.2, fun r h1 h2 h3 h4 => by omega⟩
    · rename_i hc
      cases ih with
      | inl i =>
        refine Or.inl ⟨i.1, fun r h1 h2 h3 h4 h5 => ?_⟩
        by_cases e : r = R - 1 - n
        · subst e
          exact hc ⟨h3.symm, h4, h5⟩
        · exact i.2 r (by omega) h2 h3 h4 h5
      | inr i =>
        obtain ⟨i1, i2, i3, i4, i5, i6⟩ := i
        refine Or.inr ⟨by omega, i2, i3, i4, i5, fun r h1 h2 h3 h4 => ?_⟩
        by_cases e : r = R - 1 - n
        · subst e
          exact absurd ⟨h3.symm, i4, h4⟩ hc
        · exact i6 r (by omega) h2 h3 h4
theorem mp_ref_lab (hs : mx_Sol rl R o lf rt g) : mx_Lab rl R o lf rt g (mp_pk rl o lf rt g R R) := by
  refine ⟨hs, fun k hk => ⟨fun hf => ?_, fun hf => ?_⟩⟩
  · obtain ⟨r, hr, hm, ht⟩ := hs.2.2 k hk hf
    cases mp_pk_is (rl := rl) (o := o) (lf := lf) (rt := rt) (g := g) (R := R) R (Nat.le_refl R) k with
    | inl i => exact absurd ht (i.2 r (by omega) hr hm hf)
    | inr i =>
      obtain ⟨i1, i2, i3, i4, i5, i6⟩ := i
      exact ⟨i2, i3, i5, fun r hr hm ht => i6 r (by omega) hr hm ht⟩
  · cases mp_pk_is (rl := rl) (o := o) (lf := lf) (rt := rt) (g := g) (R := R) R (Nat.le_refl R) k with
    | inl i => exact i.1
    | inr i => exact absurd i.2.2.2.1 hf
/-- the class's offers: costs and choices -/
abbrev mp_of (rl : mx_R) (o : Nat) (lf rt : Nat → Nat) (s : (Nat → Nat) × (Nat → Nat)) (r : Nat) : Prop := mx_th rl o lf rt s.1 r < mx_far ∧ (mx_th rl o lf rt s.1 r < s.1 (rl r).1 ∨ mx_th rl o lf rt s.1 r = s.1 (rl r).1 ∧ r < s.2 (rl r).1)
def mp_st (rl : mx_R) (o : Nat) (lf rt : Nat → Nat) (s : (Nat → Nat) × (Nat → Nat)) (r : Nat) : (Nat → Nat) × (Nat → Nat) := (va_up s.1 (rl r).1 (mx_th rl o lf rt s.1 r), va_up s.2 (rl r).1 r)
def mp_sw (rl : mx_R) (o : Nat) (lf rt : Nat → Nat) (P : Nat → Bool) (s0 : (Nat → Nat) × (Nat → Nat)) : Nat → (Nat → Nat) × (Nat → Nat)
  | 0 => s0
  | n + 1 => if P n = true ∧ mp_of rl o lf rt (mp_sw rl o lf rt P s0 n) n then mp_st rl o lf rt (mp_sw rl o lf rt P s0 n) n else mp_sw rl o lf rt P s0 n
variable {s0 : (Nat → Nat) × (Nat → Nat)}
theorem mp_sw_skip {a b : Nat} (h : a ≤ b) (hP : ∀ r, a ≤ r → r < b → P r = false) : mp_sw rl o lf rt P s0 b = mp_sw rl o lf rt P s0 a := by
  induction h with
  | refl => rfl
  | step h ih =>
    rename_i n
    have hn : P n = false := hP n h (Nat.lt_succ_self n)
    have hc : ¬ (P n = true ∧ mp_of rl o lf rt (mp_sw rl o lf rt P s0 n) n) := fun x => by rw [hn] at x; exact absurd x.1 (by decide)
    rw [mp_sw, if_neg hc]
    exact ih (fun r h1 h2 => hP r h1 (Nat.lt_succ_of_lt h2))
theorem mp_up_s {f : Nat → Nat} {k v : Nat} : va_up f k v k = v := by rw [va_up, if_pos rfl]
theorem mp_up_n {f : Nat → Nat} {k v j : Nat} (h : j ≠ k) : va_up f k v j = f j := by rw [va_up, if_neg h]
theorem mp_fst (h0 : ∀ k, s0.1 k ≤ mx_far) (n : Nat) : (mp_sw rl o lf rt P s0 n).1 = mx_sw rl o lf rt P s0.1 n := by
  induction n with
  | zero => rfl
  | succ n ih =>
    funext k
    have hle : mx_sw rl o lf rt P s0.1 n k ≤ mx_far := Nat.le_trans (mx_sw_le0 n k) (h0 k)
    rw [mp_sw, mx_sw_s]
    by_cases hc : P n = true ∧ mp_of rl o lf rt (mp_sw rl o lf rt P s0 n) n
    · rw [if_pos hc, mp_st]
      show va_up (mp_sw rl o lf rt P s0 n).1 (rl n).1 (mx_th rl o lf rt (mp_sw rl o lf rt P s0 n).1 n) k = _
      obtain ⟨h1, h2, h3⟩ := hc
      rw [ih] at h2 h3 ⊢
      by_cases hk : k = (rl n).1
      · rw [hk, mp_up_s]
        rw [hk] at hle
        split
        · rfl
        · rename_i hn
          have : ¬ mx_th rl o lf rt (mx_sw rl o lf rt P s0.1 n) n < mx_sw rl o lf rt P s0.1 n (rl n).1 := fun x => hn ⟨h1, rfl, x⟩
          omega
      · rw [mp_up_n hk, if_neg (fun x => hk x.2.1)]
    · rw [if_neg hc, ih]
      split
      · rename_i hn
        exfalso
        apply hc
        rw [mp_of, ih]
        refine ⟨hn.1, by omega, Or.inl ?_⟩
        rw [← hn.2.1]
        exact hn.2.2
      · rfl
theorem mp_dec (n k : Nat) : (mp_sw rl o lf rt P s0 (n + 1)).1 k ≤ (mp_sw rl o lf rt P s0 n).1 k := by
  rw [mp_sw]
  split
  · rename_i hc
    show va_up _ _ _ k ≤ _
    by_cases hk : k = (rl n).1
    · rw [hk, mp_up_s]
      have := hc.2.2
      omega
    · rw [mp_up_n hk]
      exact Nat.le_refl _
  · exact Nat.le_refl _
theorem mp_le {n n' : Nat} (h : n ≤ n') (k : Nat) : (mp_sw rl o lf rt P s0 n').1 k ≤ (mp_sw rl o lf rt P s0 n).1 k := by
  induction h with
  | refl => exact Nat.le_refl _
  | step _ ih => exact Nat.le_trans (mp_dec _ k) ih
/-- a choice falls while its cost stays -/
theorem mp_q_dec (n k : Nat) (h : (mp_sw rl o lf rt P s0 (n + 1)).1 k = (mp_sw rl o lf rt P s0 n).1 k) : (mp_sw rl o lf rt P s0 (n + 1)).2 k ≤ (mp_sw rl o lf rt P s0 n).2 k := by
  rw [mp_sw] at h ⊢
  split
  · rename_i hc
    rw [if_pos hc] at h
    have h : va_up (mp_sw rl o lf rt P s0 n).1 (rl n).1 (mx_th rl o lf rt (mp_sw rl o lf rt P s0 n).1 n) k = (mp_sw rl o lf rt P s0 n).1 k := h
    show va_up _ _ _ k ≤ _
    by_cases hk : k = (rl n).1
    · rw [hk, mp_up_s] at h ⊢
      have := hc.2.2
      omega
    · rw [mp_up_n hk]
      exact Nat.le_refl _
  · exact Nat.le_refl _
theorem mp_q_le {n n' : Nat} (hn : n ≤ n') (k : Nat) (h : (mp_sw rl o lf rt P s0 n').1 k = (mp_sw rl o lf rt P s0 n).1 k) : (mp_sw rl o lf rt P s0 n').2 k ≤ (mp_sw rl o lf rt P s0 n).2 k := by
  revert h
  induction hn with
  | refl => exact fun _ => Nat.le_refl _
  | step hm ih =>
    rename_i j
    intro h
    have h : (mp_sw rl o lf rt P s0 (j + 1)).1 k = (mp_sw rl o lf rt P s0 n).1 k := h
    have a1 := mp_dec (rl := rl) (o := o) (lf := lf) (rt := rt) (P := P) (s0 := s0) j k
    have a2 := mp_le (rl := rl) (o := o) (lf := lf) (rt := rt) (P := P) (s0 := s0) hm k
    exact Nat.le_trans (mp_q_dec j k (by omega)) (ih (by omega))
/-- a rule whose offer was the last cost is no lower than the choice -/
theorem mp_min {n r : Nat} (hr : r < n) (hP : P r = true) (ht : mx_th rl o lf rt (mp_sw rl o lf rt P s0 r).1 r = (mp_sw rl o lf rt P s0 n).1 (rl r).1) (hf : (mp_sw rl o lf rt P s0 n).1 (rl r).1 < mx_far) : (mp_sw rl o lf rt P s0 n).2 (rl r).1 ≤ r := by
  have a1 := mp_le (rl := rl) (o := o) (lf := lf) (rt := rt) (P := P) (s0 := s0) (show r + 1 ≤ n from hr) (rl r).1
  have a2 := mp_dec (rl := rl) (o := o) (lf := lf) (rt := rt) (P := P) (s0 := s0) r (rl r).1
  have hs : (mp_sw rl o lf rt P s0 (r + 1)).1 (rl r).1 = mx_th rl o lf rt (mp_sw rl o lf rt P s0 r).1 r ∧ (mp_sw rl o lf rt P s0 (r + 1)).2 (rl r).1 ≤ r := by
    rw [mp_sw]
    rw [mp_sw] at a1 a2
    split
    · rename_i hc
      refine ⟨?_, ?_⟩
      · show va_up _ _ _ (rl r).1 = _
        rw [mp_up_s]
      · show va_up _ _ _ (rl r).1 ≤ r
        rw [mp_up_s]
        exact Nat.le_refl _
    · rename_i hc
      rw [if_neg hc] at a1 a2
      have hc2 : ¬ mp_of rl o lf rt (mp_sw rl o lf rt P s0 r) r := fun x => hc ⟨hP, x⟩
      rw [mp_of] at hc2
      omega
  have := mp_q_le (rl := rl) (o := o) (lf := lf) (rt := rt) (P := P) (s0 := s0) (show r + 1 ≤ n from hr) (rl r).1 (by omega)
  omega
/-- the choices are rules that give the costs, or better -/
def mp_I (rl : mx_R) (R o : Nat) (lf rt : Nat → Nat) (s : (Nat → Nat) × (Nat → Nat)) : Prop := ∀ k, k < 4 → s.1 k ≤ mx_far ∧ (s.1 k < mx_far → s.2 k < R ∧ (rl (s.2 k)).1 = k ∧ mx_th rl o lf rt s.1 (s.2 k) ≤ s.1 k) ∧ (¬ s.1 k < mx_far → s.2 k = 24)
theorem mp_I_sw (hok : mx_ok rl R) (h0 : mp_I rl R o lf rt s0) (n : Nat) (hn : n ≤ R) : mp_I rl R o lf rt (mp_sw rl o lf rt P s0 n) := by
  induction n with
  | zero => exact h0
  | succ n ih =>
    have ih := ih (by omega)
    have hd : ∀ k, k < 4 → (mp_sw rl o lf rt P s0 (n + 1)).1 k ≤ (mp_sw rl o lf rt P s0 n).1 k := fun k _ => mp_dec n k
    rw [mp_sw] at hd ⊢
    split
    · rename_i hc
      rw [if_pos hc] at hd
      intro k hk
      have hi := ih k hk
      show va_up _ _ _ k ≤ _ ∧ (va_up _ _ _ k < _ → va_up _ _ _ k < R ∧ (rl (va_up _ _ _ k)).1 = k ∧ mx_th rl o lf rt _ (va_up _ _ _ k) ≤ va_up _ _ _ k) ∧ (¬ va_up _ _ _ k < _ → va_up _ _ _ k = 24)
      by_cases e : k = (rl n).1
      · subst e
        rw [mp_up_s, mp_up_s]
        refine ⟨Nat.le_of_lt hc.2.1, fun _ => ⟨by omega, rfl, ?_⟩, fun h => absurd hc.2.1 h⟩
        exact mx_th_mono hok (by omega) hd
      · rw [mp_up_n e, mp_up_n e]
        refine ⟨hi.1, fun h => ?_, hi.2.2⟩
        obtain ⟨i1, i2, i3⟩ := hi.2.1 h
        exact ⟨i1, i2, Nat.le_trans (mx_th_mono hok i1 hd) i3⟩
    · exact ih
def mp_s0 : (Nat → Nat) × (Nat → Nat) := (fun _ => mx_far, fun _ => 24)
def mp_po (rl : mx_R) (o : Nat) : Nat → Bool := fun r => decide ((rl r).2.1 = o)
/-- the class: the operator's rules, then t turns over the chain rules -/
def mp_C (rl : mx_R) (R o : Nat) (lf rt : Nat → Nat) : Nat → (Nat → Nat) × (Nat → Nat)
  | 0 => mp_sw rl o lf rt (mp_po rl o) mp_s0 R
  | t + 1 => mp_sw rl o lf rt (mp_po rl 8) (mp_C rl R o lf rt t) R
theorem mp_C_I (hok : mx_ok rl R) (t : Nat) : mp_I rl R o lf rt (mp_C rl R o lf rt t) := by
  induction t with
  | zero => exact mp_I_sw hok (fun k _ => ⟨Nat.le_refl _, fun h => absurd h (Nat.lt_irrefl _), fun _ => rfl⟩) R (Nat.le_refl R)
  | succ t ih => exact mp_I_sw hok ih R (Nat.le_refl R)
theorem mp_C_le (t k : Nat) : (mp_C rl R o lf rt (t + 1)).1 k ≤ (mp_C rl R o lf rt t).1 k := mp_le (Nat.zero_le R) k
theorem mp_C_far (t k : Nat) : (mp_C rl R o lf rt t).1 k ≤ mx_far := by
  induction t with
  | zero => exact mp_le (s0 := mp_s0) (Nat.zero_le R) k
  | succ t ih => exact Nat.le_trans (mp_C_le t k) ih
theorem mp_C_eq (t : Nat) : (mp_C rl R o lf rt (t + 1)).1 = mx_sw rl o lf rt (mp_po rl 8) (mp_C rl R o lf rt t).1 R := mp_fst (fun k => mp_C_far t k) R
theorem mp_C_e (hok : mx_ok rl R) (t r : Nat) (hr : r < R) (h8 : (rl r).2.1 = 8) : (mp_C rl R o lf rt (t + 1)).1 (rl r).1 ≤ (rl r).2.2.2.2 + (mp_C rl R o lf rt t).1 (rl r).2.2.1 := by
  rw [← mx_th_ch (o := o) (lf := lf) (rt := rt) h8, mp_C_eq]
  exact Nat.le_trans (mx_sw_a hr (by rw [mp_po, h8]; rfl)) (mx_th_mono hok hr (fun k _ => mx_sw_le0 r k))
theorem mp_C_c (t k : Nat) (hc : (mp_C rl R o lf rt (t + 1)).1 k < (mp_C rl R o lf rt t).1 k) : ∃ r, r < R ∧ (rl r).2.1 = 8 ∧ (rl r).1 = k ∧ (rl r).2.2.2.2 + (mp_C rl R o lf rt (t + 1)).1 (rl r).2.2.1 ≤ (mp_C rl R o lf rt (t + 1)).1 k := by
  rw [mp_C_eq] at hc ⊢
  cases mx_sw_b (rl := rl) (o := o) (lf := lf) (rt := rt) (P := mp_po rl 8) (g0 := (mp_C rl R o lf rt t).1) R k with
  | inl h => omega
  | inr h =>
    obtain ⟨r, hr, hP, hm, ht⟩ := h
    have h8 : (rl r).2.1 = 8 := of_decide_eq_true hP
    refine ⟨r, hr, h8, hm, ?_⟩
    rw [mx_th_ch h8] at ht
    rw [ht]
    exact Nat.add_le_add_left (mx_sw_le (Nat.le_of_lt hr) _) _
theorem mp_C_stop (hok : mx_ok rl R) (k : Nat) (hk : k < 4) : (mp_C rl R o lf rt 4).1 k = (mp_C rl R o lf rt 3).1 k :=
  mx_stop hok (fun k _ => mp_C_le 0 k) (fun k _ => mp_C_le 1 k) (fun k _ => mp_C_le 2 k) (fun k _ => mp_C_le 3 k) (fun r hr h8 => mp_C_e hok 0 r hr h8) (fun r hr h8 => mp_C_e hok 1 r hr h8) (fun r hr h8 => mp_C_e hok 2 r hr h8) (fun k _ h => mp_C_c 0 k h) (fun k _ h => mp_C_c 1 k h) (fun k _ h => mp_C_c 2 k h) (fun k _ h => mp_C_c 3 k h) k hk
theorem mp_C_op (t r : Nat) (hr : r < R) (ho : (rl r).2.1 = o) (h8 : (rl r).2.1 ≠ 8) : (mp_C rl R o lf rt t).1 (rl r).1 ≤ mx_th rl o lf rt g r := by
  induction t with
  | zero =>
    have h1 : (mp_C rl R o lf rt 0).1 = mx_sw rl o lf rt (mp_po rl o) (fun _ => mx_far) R := mp_fst (s0 := mp_s0) (fun k => Nat.le_refl _) R
    rw [h1, mx_th_op (g' := mx_sw rl o lf rt (mp_po rl o) (fun _ => mx_far) r) h8]
    exact mx_sw_a hr (by rw [mp_po, ho]; exact decide_eq_true rfl)
  | succ t ih => exact Nat.le_trans (mp_C_le t _) ih
/-- the class's label -/
theorem mp_cls (hok : mx_ok rl R) (ho : o < 8) : mx_Lab rl R o lf rt (mp_C rl R o lf rt 3).1 (mp_C rl R o lf rt 3).2 := by
  have hI := mp_C_I (rl := rl) (o := o) (lf := lf) (rt := rt) hok 3
  have cl : ∀ r, r < R → (mp_C rl R o lf rt 3).1 (rl r).1 ≤ mx_th rl o lf rt (mp_C rl R o lf rt 3).1 r := fun r hr => by
    by_cases h8 : (rl r).2.1 = 8
    · rw [mx_th_ch h8, ← mp_C_stop hok _ (hok r hr).1]
      exact mp_C_e hok 3 r hr h8
    · by_cases h : (rl r).2.1 = o
      · exact mp_C_op 3 r hr h h8
      · rw [mx_th, if_neg h8, if_neg h]
        exact mp_C_far 3 _
  have sol : mx_Sol rl R o lf rt (mp_C rl R o lf rt 3).1 := ⟨fun k _ => mp_C_far 3 k, cl, fun k hk hf => by
    obtain ⟨i1, i2, i3⟩ := (hI k hk).2.1 hf
    have := cl _ i1
    rw [i2] at this
    exact ⟨_, i1, i2, by omega⟩⟩
  refine ⟨sol, fun k hk => ⟨fun hf => ?_, (hI k hk).2.2⟩⟩
  obtain ⟨i1, i2, i3⟩ := (hI k hk).2.1 hf
  have i4 := cl _ i1
  rw [i2] at i4
  refine ⟨i1, i2, by omega, fun r hr hm ht => ?_⟩
  by_cases h8 : (rl r).2.1 = 8
  · have hj := (hok r hr).2.2.1
    have hp := (hok r hr).2.2.2.2.2 h8
    have ht' := ht
    rw [mx_th_ch h8] at ht'
    have l3 : (mp_C rl R o lf rt 3).1 (rl r).2.2.1 ≤ (mp_C rl R o lf rt 2).1 (rl r).2.2.1 := mp_C_le 2 _
    by_cases hc : (mp_C rl R o lf rt 3).1 (rl r).2.2.1 < (mp_C rl R o lf rt 2).1 (rl r).2.2.1
    · exact (mx_top hok (fun k _ => mp_C_le 0 k) (fun k _ => mp_C_le 1 k) (fun k _ => mp_C_le 2 k) (fun r hr h8 => mp_C_e hok 0 r hr h8) (fun r hr h8 => mp_C_e hok 1 r hr h8) (d0 := (mp_C rl R o lf rt 0).1) (d1 := (mp_C rl R o lf rt 1).1) (d2 := (mp_C rl R o lf rt 2).1) (d3 := (mp_C rl R o lf rt 3).1) (fun k _ h => mp_C_c 0 k h) (fun k _ h => mp_C_c 1 k h) (fun k _ h => mp_C_c 2 k h) hj hk hc (by omega)).elim
    · have b1 := mp_le (rl := rl) (o := o) (lf := lf) (rt := rt) (P := mp_po rl 8) (s0 := mp_C rl R o lf rt 2) (Nat.zero_le r) (rl r).2.2.1
      have b2 := mp_le (rl := rl) (o := o) (lf := lf) (rt := rt) (P := mp_po rl 8) (s0 := mp_C rl R o lf rt 2) (Nat.le_of_lt hr) (rl r).2.2.1
      have e2 : (mp_sw rl o lf rt (mp_po rl 8) (mp_C rl R o lf rt 2) R).1 = (mp_C rl R o lf rt 3).1 := rfl
      have e0 : (mp_sw rl o lf rt (mp_po rl 8) (mp_C rl R o lf rt 2) 0).1 = (mp_C rl R o lf rt 2).1 := rfl
      rw [e2] at b2
      rw [e0] at b1
      have := mp_min (rl := rl) (o := o) (lf := lf) (rt := rt) (P := mp_po rl 8) (s0 := mp_C rl R o lf rt 2) hr (by rw [mp_po, h8]; rfl) (by rw [mx_th_ch h8, e2, hm]; omega) (by rw [e2, hm]; exact hf)
      rw [hm] at this
      exact this
  · have h : (rl r).2.1 = o := by
      by_cases h : (rl r).2.1 = o
      · exact h
      · rw [mx_th, if_neg h8, if_neg h] at ht
        omega
    have c0 := mp_C_op (rl := rl) (R := R) (o := o) (lf := lf) (rt := rt) (g := (mp_C rl R o lf rt 3).1) 0 r hr h h8
    rw [hm] at c0
    have l1 : (mp_C rl R o lf rt 1).1 k ≤ (mp_C rl R o lf rt 0).1 k := mp_C_le 0 k
    have l2 : (mp_C rl R o lf rt 2).1 k ≤ (mp_C rl R o lf rt 1).1 k := mp_C_le 1 k
    have l3 : (mp_C rl R o lf rt 3).1 k ≤ (mp_C rl R o lf rt 2).1 k := mp_C_le 2 k
    have m0 : (mp_C rl R o lf rt 0).2 k ≤ r := by
      have := mp_min (rl := rl) (o := o) (lf := lf) (rt := rt) (P := mp_po rl o) (s0 := mp_s0) hr (by rw [mp_po, h]; exact decide_eq_true rfl) (by
        rw [mx_th_op (g' := (mp_C rl R o lf rt 3).1) h8, hm]
        show _ = (mp_C rl R o lf rt 0).1 k
        omega) (by rw [hm]; show (mp_C rl R o lf rt 0).1 k < _; omega)
      rw [hm] at this
      exact this
    have m1 : (mp_C rl R o lf rt 1).2 k ≤ (mp_C rl R o lf rt 0).2 k := mp_q_le (s0 := mp_C rl R o lf rt 0) (Nat.zero_le R) k (by show (mp_C rl R o lf rt 1).1 k = (mp_C rl R o lf rt 0).1 k; omega)
    have m2 : (mp_C rl R o lf rt 2).2 k ≤ (mp_C rl R o lf rt 1).2 k := mp_q_le (s0 := mp_C rl R o lf rt 1) (Nat.zero_le R) k (by show (mp_C rl R o lf rt 2).1 k = (mp_C rl R o lf rt 1).1 k; omega)
    have m3 : (mp_C rl R o lf rt 3).2 k ≤ (mp_C rl R o lf rt 2).2 k := mp_q_le (s0 := mp_C rl R o lf rt 2) (Nat.zero_le R) k (by show (mp_C rl R o lf rt 3).1 k = (mp_C rl R o lf rt 2).1 k; omega)
    omega
/-- where a turn changes nothing, no later one does -/
theorem mp_C_same {t : Nat} (h : mp_C rl R o lf rt (t + 1) = mp_C rl R o lf rt t) (d : Nat) : mp_C rl R o lf rt (t + d) = mp_C rl R o lf rt t := by
  induction d with
  | zero => rfl
  | succ d ih =>
    show mp_sw rl o lf rt (mp_po rl 8) (mp_C rl R o lf rt (t + d)) R = _
    rw [ih]
    exact h
end MP
end
section
/-! The states: what both searches count. A state is its relative costs and its choices, four of each. -/
section NB
variable {rl : mx_R} {R o : Nat} {lf rt g : Nat → Nat}
/-- how many kinds cost less than v -/
def ns_rk (g : Nat → Nat) (v : Nat) : Nat := (if g 0 < v then 1 else 0) + (if g 1 < v then 1 else 0) + (if g 2 < v then 1 else 0) + (if g 3 < v then 1 else 0)
theorem ns_rk_lt {v w j : Nat} (hj : j < 4) (h1 : g j = v) (h2 : v < w) : ns_rk g v + 1 ≤ ns_rk g w := by
  have hc : j = 0 ∨ j = 1 ∨ j = 2 ∨ j = 3 := by omega
  unfold ns_rk
  rcases hc with rfl | rfl | rfl | rfl <;> (repeat' split) <;> omega
theorem ns_rk_le (v j : Nat) (hj : j < 4) (h1 : g j = v) : ns_rk g v ≤ 3 := by
  have hc : j = 0 ∨ j = 1 ∨ j = 2 ∨ j = 3 := by omega
  unfold ns_rk
  rcases hc with rfl | rfl | rfl | rfl <;> (repeat' split) <;> omega
theorem ns_bound0 (hok : mx_ok rl R) (h : mx_Sol rl R o lf rt g) {M : Nat} (hl : ∀ k, k < 4 → lf k < mx_far → lf k ≤ M) (hr : ∀ k, k < 4 → rt k < mx_far → rt k ≤ M) : ∀ v k, k < 4 → g k = v → g k < mx_far → g k ≤ 9 * ns_rk g v + (9 + 2 * M) := by
  intro v
  induction v using Nat.strongRecOn with
  | ind v ih =>
    intro k hk hv hf
    obtain ⟨r, hr', hm, ht⟩ := h.2.2 k hk hf
    have hb := hok r hr'
    by_cases h8 : (rl r).2.1 = 8
    · rw [mx_th_ch h8] at ht
      have hp := hb.2.2.2.2.2 h8
      have i1 := ih (g (rl r).2.2.1) (by omega) _ hb.2.2.1 rfl (by omega)
      have i2 := ns_rk_lt (g := g) (v := g (rl r).2.2.1) (w := v) hb.2.2.1 rfl (by omega)
      have := hb.2.2.2.2.1
      omega
    · by_cases ho : (rl r).2.1 = o
      · rw [mx_th, if_neg h8, if_pos ho] at ht
        have a1 := hl _ hb.2.2.1
        have a2 := hr _ hb.2.2.2.1
        have := hb.2.2.2.2.1
        split at ht <;> split at ht <;> omega
      · rw [mx_th, if_neg h8, if_neg ho] at ht
        omega
/-- no cost is far above those of the kids -/
theorem ns_bound (hok : mx_ok rl R) (h : mx_Sol rl R o lf rt g) {M : Nat} (hl : ∀ k, k < 4 → lf k < mx_far → lf k ≤ M) (hr : ∀ k, k < 4 → rt k < mx_far → rt k ≤ M) (k : Nat) (hk : k < 4) (hf : g k < mx_far) : g k ≤ 2 * M + 36 := by
  have a1 := ns_bound0 hok h hl hr (g k) k hk rfl hf
  have a2 := ns_rk_le (g := g) (g k) k hk rfl
  omega
end NB
abbrev ns_Q : Type := Nat × Nat × Nat × Nat
def ns_tup (f : Nat → Nat) : ns_Q := (f 0, f 1, f 2, f 3)
def ns_at (t : ns_Q) (k : Nat) : Nat := if k = 0 then t.1 else if k = 1 then t.2.1 else if k = 2 then t.2.2.1 else t.2.2.2
theorem ns_at_tup (f : Nat → Nat) (k : Nat) (hk : k < 4) : ns_at (ns_tup f) k = f k := by
  have hc : k = 0 ∨ k = 1 ∨ k = 2 ∨ k = 3 := by omega
  rcases hc with rfl | rfl | rfl | rfl <;> rfl
theorem ns_tup_eq {f g : Nat → Nat} (h : ∀ k, k < 4 → f k = g k) : ns_tup f = ns_tup g := by
  rw [ns_tup, ns_tup, h 0 (by omega), h 1 (by omega), h 2 (by omega), h 3 (by omega)]
theorem ns_tup_inj {f g : Nat → Nat} (h : ns_tup f = ns_tup g) (k : Nat) (hk : k < 4) : f k = g k := by
  rw [← ns_at_tup f k hk, ← ns_at_tup g k hk, h]
def ns_low (g : Nat → Nat) : Nat := min (min (g 0) (g 1)) (min (g 2) (g 3))
def ns_nrm (g : Nat → Nat) (k : Nat) : Nat := if g k < mx_far then g k - ns_low g else mx_far
abbrev ns_St : Type := ns_Q × ns_Q
/-- c is the state of a tree with the operator o over trees of the states a and b -/
def ns_nx (rl : mx_R) (R o : Nat) (a b c : ns_St) : Prop := ∃ g q : Nat → Nat, mx_Lab rl R o (ns_at a.1) (ns_at b.1) g q ∧ c = (ns_tup (ns_nrm g), ns_tup q)
theorem ns_nx_uniq {rl : mx_R} {R o : Nat} (hok : mx_ok rl R) {a b c c' : ns_St} (h : ns_nx rl R o a b c) (h' : ns_nx rl R o a b c') : c = c' := by
  obtain ⟨g, q, h1, h2⟩ := h
  obtain ⟨g', q', h1', h2'⟩ := h'
  have e := mx_lab_uniq hok h1 h1'
  rw [h2, h2']
  have e1 : ∀ k, k < 4 → g k = g' k := fun k hk => (e k hk).1
  have el : ns_low g = ns_low g' := by
    rw [ns_low, ns_low, e1 0 (by omega), e1 1 (by omega), e1 2 (by omega), e1 3 (by omega)]
  rw [ns_tup_eq (f := q) (g := q') (fun k hk => (e k hk).2), ns_tup_eq (f := ns_nrm g) (g := ns_nrm g') (fun k hk => by rw [ns_nrm, ns_nrm, e1 k hk, el])]
/-- each one found rests on ones found before it -/
def ns_from (rl : mx_R) (R : Nat) (A : Nat → ns_St) (n : Nat) : Prop := ∀ i, i < n → ∃ o, (o < 3 ∧ ∃ a b, ns_nx rl R o a b (A i)) ∨ (3 ≤ o ∧ o < 8 ∧ ∃ x y, x < i ∧ y < i ∧ ns_nx rl R o (A x) (A y) (A i))
def ns_dis (A : Nat → ns_St) (n : Nat) : Prop := ∀ i j, i < n → j < n → A i = A j → i = j
def ns_cl (rl : mx_R) (R : Nat) (A : Nat → ns_St) (n : Nat) : Prop := (∀ o, o < 3 → ∀ a b c, ns_nx rl R o a b c → ∃ i, i < n ∧ A i = c) ∧ ∀ o, 3 ≤ o → o < 8 → ∀ x y, x < n → y < n → ∀ c, ns_nx rl R o (A x) (A y) c → ∃ i, i < n ∧ A i = c
theorem ns_sub {rl : mx_R} {R : Nat} {A B : Nat → ns_St} {n m : Nat} (hA : ns_from rl R A n) (hB : ns_cl rl R B m) : ∀ i, i < n → ∃ j, j < m ∧ B j = A i := by
  intro i
  induction i using Nat.strongRecOn with
  | ind i ih =>
    intro hi
    obtain ⟨o, h | h⟩ := hA i hi
    · obtain ⟨ho, a, b, h⟩ := h
      exact hB.1 o ho a b _ h
    · obtain ⟨h3, h8, x, y, hx, hy, h⟩ := h
      obtain ⟨x', hx', ex⟩ := ih x hx (by omega)
      obtain ⟨y', hy', ey⟩ := ih y hy (by omega)
      rw [← ex, ← ey] at h
      exact hB.2 o h3 h8 x' y' hx' hy' _ h
theorem ns_pig : ∀ (L M : List ns_St), L.Nodup → (∀ a, a ∈ L → a ∈ M) → L.length ≤ M.length
  | [], M, _, _ => Nat.zero_le _
  | a :: L, M, hn, hs => by
    have h1 := List.nodup_cons.mp hn
    have ha : a ∈ M := hs a List.mem_cons_self
    have hl := List.length_erase_of_mem ha
    have hp : 0 < M.length := List.length_pos_of_mem ha
    have := ns_pig L (M.erase a) h1.2 (fun b hb => by
      have hne : b ≠ a := fun e => h1.1 (e ▸ hb)
      exact (List.mem_erase_of_ne hne).mpr (hs b (List.mem_cons_of_mem _ hb)))
    rw [List.length_cons]
    omega
theorem ns_le {rl : mx_R} {R : Nat} {A B : Nat → ns_St} {n m : Nat} (hA : ns_from rl R A n) (hd : ns_dis A n) (hB : ns_cl rl R B m) : n ≤ m := by
  have h := ns_pig ((List.range n).map A) ((List.range m).map B) (by
    refine List.pairwise_map.mpr ?_
    refine List.Pairwise.imp_of_mem (R := fun a b => a < b) ?_ List.pairwise_lt_range
    intro a b ha hb hab e
    have := hd a b (List.mem_range.mp ha) (List.mem_range.mp hb) e
    omega) (fun a ha => by
    obtain ⟨i, hi, rfl⟩ := List.mem_map.mp ha
    obtain ⟨j, hj, e⟩ := ns_sub hA hB i (List.mem_range.mp hi)
    exact List.mem_map.mpr ⟨j, List.mem_range.mpr hj, e⟩)
  simpa using h
/-- what states() answers -/
def ns_ans (rl : mx_R) (R : Nat) (r : Int32) : Prop := (∃ (A : Nat → ns_St) (n : Nat), n ≤ 40 ∧ r = nI n ∧ ns_from rl R A n ∧ ns_dis A n ∧ ns_cl rl R A n) ∨ (r = -4 ∧ ∃ A : Nat → ns_St, ns_from rl R A 41 ∧ ns_dis A 41)
theorem ns_ans_uniq {rl : mx_R} {R : Nat} {r r' : Int32} (h : ns_ans rl R r) (h' : ns_ans rl R r') : r = r' := by
  rcases h with ⟨A, n, hn, e, h1, h2, h3⟩ | ⟨e, A, h1, h2⟩ <;> rcases h' with ⟨A', n', hn', e', h1', h2', h3'⟩ | ⟨e', A', h1', h2'⟩
  · have a1 := ns_le h1 h2 h3'
    have a2 := ns_le h1' h2' h3
    rw [e, e', show n = n' by omega]
  · have := ns_le h1' h2' h3
    omega
  · have := ns_le h1 h2 h3'
    omega
  · rw [e, e']
end
section
/-! The places: registers while there are free ones, else the value that is needed longest gets a slot. pl j: the place of instruction j; un j: its last use. -/
abbrev pl_held (reg : Nat) (un pl : Nat → Nat) (i j : Nat) : Prop := j < i ∧ pl j < reg ∧ i < un j
def pl_fr (reg : Nat) (un pl : Nat → Nat) (i r : Nat) : Prop := ∀ j, pl_held reg un pl i j → pl j ≠ r
def pl_max (reg : Nat) (un pl : Nat → Nat) (i x : Nat) : Prop := (x = i ∨ pl_held reg un pl i x) ∧ (un i < un x ∨ un i = un x ∧ i ≤ x) ∧ ∀ j, pl_held reg un pl i j → un j < un x ∨ un j = un x ∧ j ≤ x
def pl_step (reg : Nat) (un : Nat → Nat) (i : Nat) (pl : Nat → Nat) (sc : Nat) (pl' : Nat → Nat) (sc' : Nat) : Prop :=
  (∃ r, r < reg ∧ pl_fr reg un pl i r ∧ (∀ r', r' < r → ¬ pl_fr reg un pl i r') ∧ pl' = va_up pl i r ∧ sc' = sc) ∨
  ((∀ r, r < reg → ¬ pl_fr reg un pl i r) ∧ ∃ x, pl_max reg un pl i x ∧ sc' = sc + 1 ∧ (x = i ∧ pl' = va_up pl i (reg + sc) ∨ x ≠ i ∧ pl' = va_up (va_up pl x (reg + sc)) i (pl x)))
def pl_at (reg : Nat) (un : Nat → Nat) : Nat → (Nat → Nat) → Nat → Prop
  | 0, pl, sc => pl = (fun _ => 0) ∧ sc = 0
  | i + 1, pl', sc' => ∃ pl sc, pl_at reg un i pl sc ∧ pl_step reg un i pl sc pl' sc'
section PLC
variable {reg : Nat} {un pl pl' pl2 : Nat → Nat} {i sc sc' sc2 : Nat}
theorem pl_step_uniq (h : pl_step reg un i pl sc pl' sc') (h2 : pl_step reg un i pl sc pl2 sc2) : pl' = pl2 ∧ sc' = sc2 := by
  rcases h with ⟨r, a1, a2, a3, a4, a5⟩ | ⟨a1, x, a2, a3, a4⟩ <;> rcases h2 with ⟨r2, b1, b2, b3, b4, b5⟩ | ⟨b1, x2, b2, b3, b4⟩
  · have e : r = r2 := by
      rcases Nat.lt_trichotomy r r2 with h | h | h
      · exact absurd a2 (b3 r h)
      · exact h
      · exact absurd b2 (a3 r2 h)
    rw [a4, b4, a5, b5, e]
    exact ⟨rfl, rfl⟩
  · exact absurd a2 (b1 r a1)
  · exact absurd b2 (a1 r2 b1)
  · have e : x = x2 := by
      obtain ⟨c1, c2, c3⟩ := a2
      obtain ⟨d1, d2, d3⟩ := b2
      have f1 : un x2 < un x ∨ un x2 = un x ∧ x2 ≤ x := by
        rcases d1 with e | e
        · rw [e]; exact c2
        · exact c3 x2 e
      have f2 : un x < un x2 ∨ un x = un x2 ∧ x ≤ x2 := by
        rcases c1 with e | e
        · rw [e]; exact d2
        · exact d3 x e
      omega
    subst e
    refine ⟨?_, by omega⟩
    rcases a4 with ⟨e, a4⟩ | ⟨e, a4⟩ <;> rcases b4 with ⟨e2, b4⟩ | ⟨e2, b4⟩
    · rw [a4, b4]
    · exact absurd e e2
    · exact absurd e2 e
    · rw [a4, b4]
theorem pl_at_uniq : ∀ (i : Nat) {pl pl' : Nat → Nat} {sc sc' : Nat}, pl_at reg un i pl sc → pl_at reg un i pl' sc' → pl = pl' ∧ sc = sc'
  | 0, _, _, _, _, h, h' => ⟨h.1.trans h'.1.symm, h.2.trans h'.2.symm⟩
  | i + 1, _, _, _, _, h, h' => by
    obtain ⟨p1, s1, a1, a2⟩ := h
    obtain ⟨p2, s2, b1, b2⟩ := h'
    obtain ⟨rfl, rfl⟩ := pl_at_uniq i a1 b1
    exact pl_step_uniq a2 b2
/-- what is in one place is never needed at once; slots are used once -/
def pl_ok (reg : Nat) (un : Nat → Nat) (i : Nat) (pl : Nat → Nat) (sc : Nat) : Prop :=
  (∀ j k, j < k → k < i → pl j = pl k → un j ≤ k) ∧ (∀ j, j < i → pl j < reg + sc) ∧ (∀ j k, j < i → k < i → reg ≤ pl j → pl j = pl k → j = k) ∧ sc ≤ i
theorem pl_ok_step (hr : 0 < reg) (h : pl_ok reg un i pl sc) (hs : pl_step reg un i pl sc pl' sc') : pl_ok reg un (i + 1) pl' sc' := by
  obtain ⟨h1, h2, h3, h4⟩ := h
  rcases hs with ⟨r, a1, a2, a3, rfl, rfl⟩ | ⟨a1, x, a2, rfl, a4⟩
  · refine ⟨fun j k hjk hk e => ?_, fun j hj => ?_, fun j k hj hk hg e => ?_, by omega⟩
    · by_cases ek : k = i
      · subst ek
        rw [mp_up_n (by omega), mp_up_s] at e
        by_cases hu : un j ≤ k
        · exact hu
        · exact absurd e (a2 j ⟨hjk, by omega, by omega⟩)
      · rw [mp_up_n (by omega), mp_up_n ek] at e
        exact h1 j k hjk (by omega) e
    · by_cases ej : j = i
      · rw [ej, mp_up_s]; omega
      · rw [mp_up_n ej]; exact h2 j (by omega)
    · by_cases ej : j = i
      · rw [ej, mp_up_s] at hg
        omega
      · by_cases ek : k = i
        · rw [mp_up_n ej, ek, mp_up_s] at e
          rw [mp_up_n ej] at hg
          omega
        · rw [mp_up_n ej, mp_up_n ek] at e
          rw [mp_up_n ej] at hg
          exact h3 j k (by omega) (by omega) hg e
  · rcases a4 with ⟨rfl, rfl⟩ | ⟨hx, rfl⟩
    · refine ⟨fun j k hjk hk e => ?_, fun j hj => ?_, fun j k hj hk hg e => ?_, by omega⟩
      · by_cases ek : k = x
        · subst ek
          rw [mp_up_n (by omega), mp_up_s] at e
          have := h2 j (by omega)
          omega
        · rw [mp_up_n (by omega), mp_up_n ek] at e
          exact h1 j k hjk (by omega) e
      · by_cases ej : j = x
        · rw [ej, mp_up_s]; omega
        · rw [mp_up_n ej]
          have := h2 j (by omega)
          omega
      · by_cases ej : j = x
        · by_cases ek : k = x
          · omega
          · rw [ej, mp_up_s, mp_up_n ek] at e
            have := h2 k (by omega)
            omega
        · by_cases ek : k = x
          · rw [mp_up_n ej, ek, mp_up_s] at e
            have := h2 j (by omega)
            omega
          · rw [mp_up_n ej, mp_up_n ek] at e
            rw [mp_up_n ej] at hg
            exact h3 j k (by omega) (by omega) hg e
    · have hh : pl_held reg un pl i x := by
        rcases a2.1 with e | e
        · exact absurd e hx
        · exact e
      obtain ⟨g1, g2, g3⟩ := hh
      have u : ∀ j, va_up (va_up pl x (reg + sc)) i (pl x) j = if j = i then pl x else if j = x then reg + sc else pl j := fun j => rfl
      refine ⟨fun j k hjk hk e => ?_, fun j hj => ?_, fun j k hj hk hg e => ?_, by omega⟩
      · rw [u, u] at e
        rw [if_neg (show j ≠ i by omega)] at e
        by_cases ek : k = i
        · rw [if_pos ek] at e
          by_cases ej : j = x
          · rw [if_pos ej] at e
            have := h2 x g1
            omega
          · rw [if_neg ej] at e
            rcases Nat.lt_or_gt_of_ne ej with h | h
            · have := h1 j x h g1 e
              omega
            · have := h1 x j h (by omega) e.symm
              omega
        · rw [if_neg ek] at e
          by_cases ej : j = x
          · rw [if_pos ej, if_neg (show k ≠ x by omega)] at e
            have := h2 k (by omega)
            omega
          · rw [if_neg ej] at e
            by_cases ekx : k = x
            · rw [if_pos ekx] at e
              have := h2 j (by omega)
              omega
            · rw [if_neg ekx] at e
              exact h1 j k hjk (by omega) e
      · rw [u]
        have := h2 x g1
        split
        · omega
        · split
          · omega
          · have := h2 j (by omega)
            omega
      · rw [u] at hg e
        rw [u] at e
        by_cases ej : j = i
        · rw [if_pos ej] at hg
          omega
        · rw [if_neg ej] at hg e
          by_cases ek : k = i
          · rw [if_pos ek] at e
            by_cases ejx : j = x
            · rw [if_pos ejx] at e
              omega
            · rw [if_neg ejx] at e hg
              omega
          · rw [if_neg ek] at e
            by_cases ejx : j = x
            · by_cases ekx : k = x
              · omega
              · rw [if_pos ejx, if_neg ekx] at e
                have := h2 k (by omega)
                omega
            · rw [if_neg ejx] at e hg
              by_cases ekx : k = x
              · rw [if_pos ekx] at e
                have := h2 j (by omega)
                omega
              · rw [if_neg ekx] at e
                exact h3 j k (by omega) (by omega) hg e
theorem pl_ok_at (hr : 0 < reg) : ∀ (i : Nat) {pl : Nat → Nat} {sc : Nat}, pl_at reg un i pl sc → pl_ok reg un i pl sc
  | 0, _, _, h => by
    obtain ⟨rfl, rfl⟩ := h
    exact ⟨fun j k _ hk => absurd hk (Nat.not_lt_zero _), fun j hj => absurd hj (Nat.not_lt_zero _), fun j k hj => absurd hj (Nat.not_lt_zero _), Nat.le_refl _⟩
  | i + 1, _, _, h => by
    obtain ⟨p1, s1, a1, a2⟩ := h
    exact pl_ok_step hr (pl_ok_at hr i a1) a2
end PLC
end
section
/-! The rules of a node's cover: from the kind that is wanted along the choices down to the operator's rule. -/
def fo_path (rl : mx_R) (q : Nat → Nat) : Nat → List Nat → Prop
  | _, [] => False
  | k, [r] => r = q k ∧ (rl r).2.1 ≠ 8
  | k, r :: L => r = q k ∧ (rl r).2.1 = 8 ∧ fo_path rl q (rl r).2.2.1 L
section FO
variable {rl : mx_R} {R o : Nat} {lf rt g q : Nat → Nat}
theorem fo_cons {k r r2 : Nat} {L : List Nat} (h : fo_path rl q k (r :: r2 :: L)) : r = q k ∧ (rl r).2.1 = 8 ∧ fo_path rl q (rl r).2.2.1 (r2 :: L) := h
theorem fo_ex (hok : mx_ok rl R) (h : mx_Lab rl R o lf rt g q) : ∀ n k, k < 4 → g k < mx_far → ns_rk g (g k) ≤ n → ∃ L, fo_path rl q k L ∧ L.length ≤ n + 1 := by
  intro n
  induction n with
  | zero =>
    intro k hk hf hn
    obtain ⟨x1, x2, x3, x4⟩ := (h.2 k hk).1 hf
    by_cases h8 : (rl (q k)).2.1 = 8
    · exfalso
      rw [mx_th_ch h8] at x3
      have hb := hok _ x1
      have hp := hb.2.2.2.2.2 h8
      have := ns_rk_lt (g := g) (v := g (rl (q k)).2.2.1) (w := g k) hb.2.2.1 rfl (by omega)
      omega
    · exact ⟨[q k], ⟨rfl, h8⟩, by simp⟩
  | succ n ih =>
    intro k hk hf hn
    obtain ⟨x1, x2, x3, x4⟩ := (h.2 k hk).1 hf
    by_cases h8 : (rl (q k)).2.1 = 8
    · rw [mx_th_ch h8] at x3
      have hb := hok _ x1
      have hp := hb.2.2.2.2.2 h8
      have := ns_rk_lt (g := g) (v := g (rl (q k)).2.2.1) (w := g k) hb.2.2.1 rfl (by omega)
      obtain ⟨L, hL, hl⟩ := ih _ hb.2.2.1 (by omega) (by omega)
      cases L with
      | nil => exact absurd hL id
      | cons r2 L => exact ⟨q k :: r2 :: L, ⟨rfl, h8, hL⟩, by simp at hl ⊢; omega⟩
    · exact ⟨[q k], ⟨rfl, h8⟩, by simp⟩
/-- a kind with a cover has a path of at most four rules -/
theorem fo_four (hok : mx_ok rl R) (h : mx_Lab rl R o lf rt g q) {k : Nat} (hk : k < 4) (hf : g k < mx_far) : ∃ L, fo_path rl q k L ∧ L.length ≤ 4 :=
  fo_ex hok h 3 k hk hf (ns_rk_le (g k) k hk rfl)
/-- its last rule is one of the operator's, over kids that have covers -/
theorem fo_last (hok : mx_ok rl R) (h : mx_Lab rl R o lf rt g q) : ∀ (L : List Nat) (k : Nat), k < 4 → g k < mx_far → fo_path rl q k L → ∃ r, L.getLast? = some r ∧ r < R ∧ (rl r).2.1 = o ∧ (0 < zz_kd o → lf (rl r).2.2.1 < mx_far) ∧ (1 < zz_kd o → rt (rl r).2.2.2.1 < mx_far)
  | [], _, _, _, hp => absurd hp id
  | [r], k, hk, hf, hp => by
    obtain ⟨rfl, h8⟩ := hp
    obtain ⟨x1, x2, x3, x4⟩ := (h.2 k hk).1 hf
    rw [mx_th, if_neg h8] at x3
    by_cases ho : (rl (q k)).2.1 = o
    · rw [if_pos ho] at x3
      refine ⟨q k, rfl, x1, ho, fun h => ?_, fun h => ?_⟩
      · rw [if_pos h] at x3; omega
      · rw [if_pos h] at x3; omega
    · rw [if_neg ho] at x3
      omega
  | r :: r2 :: L, k, hk, hf, hp => by
    obtain ⟨rfl, h8, hp⟩ := fo_cons hp
    obtain ⟨x1, x2, x3, x4⟩ := (h.2 k hk).1 hf
    rw [mx_th_ch h8] at x3
    have hb := hok _ x1
    obtain ⟨r', e, he⟩ := fo_last hok h (r2 :: L) (rl (q k)).2.2.1 hb.2.2.1 (by omega) hp
    exact ⟨r', by rw [List.getLast?_cons_cons]; exact e, he⟩
theorem fo_uniq : ∀ (L M : List Nat) (k : Nat), fo_path rl q k L → fo_path rl q k M → L = M
  | [], _, _, h, _ => absurd h id
  | _, [], _, _, h => absurd h id
  | [r], [r'], k, h, h' => by rw [h.1, h'.1]
  | [r], r' :: r2 :: M, k, h, h' => by
    obtain ⟨e, h8, _⟩ := fo_cons h'
    rw [e, ← h.1] at h8
    exact absurd h8 h.2
  | r :: r2 :: L, [r'], k, h, h' => by
    obtain ⟨e, h8, _⟩ := fo_cons h
    rw [e, ← h'.1] at h8
    exact absurd h8 h'.2
  | r :: r2 :: L, r' :: r2' :: M, k, h, h' => by
    obtain ⟨e, _, h1⟩ := fo_cons h
    obtain ⟨e', _, h1'⟩ := fo_cons h'
    rw [e'.trans e.symm] at h1'
    rw [fo_uniq (r2 :: L) (r2' :: M) _ h1 h1', e, e']
end FO
end
section
/-! The code: instructions are put behind one another. (how many, rule, node, op, number, sources, last use); 1000 stands for 'no source'. -/
abbrev cd_T : Type := Nat × (Nat → Nat) × (Nat → Nat) × (Nat → Nat) × (Nat → Int32) × (Nat → Nat) × (Nat → Nat) × (Nat → Nat)
def cd_un (un : Nat → Nat) (n a : Nat) : Nat → Nat := if a < 1000 then va_up un a n else un
def cd_ap (s : cd_T) (r nd o : Nat) (nu : Int32) (a b : Nat) : cd_T :=
  (s.1 + 1, va_up s.2.1 s.1 r, va_up s.2.2.1 s.1 nd, va_up s.2.2.2.1 s.1 o, upd s.2.2.2.2.1 s.1 nu, va_up s.2.2.2.2.2.1 s.1 a, va_up s.2.2.2.2.2.2.1 s.1 b, cd_un (cd_un (va_up s.2.2.2.2.2.2.2 s.1 s.1) s.1 a) s.1 b)
def cd_0 : cd_T := (0, fun _ => 0, fun _ => 0, fun _ => 0, fun _ => 0, fun _ => 0, fun _ => 0, fun _ => 0)
/-- the chain rules, the first of the list first -/
def cd_ch (nd : Nat) : List Nat → cd_T → cd_T
  | [], s => s
  | r :: L, s => cd_ch nd L (cd_ap s r nd 8 0 (s.1 - 1) 1000)
def cd_ok (s : cd_T) : Prop := ∀ i, i < s.1 → i ≤ s.2.2.2.2.2.2.2 i ∧ s.2.2.2.2.2.2.2 i < s.1 ∧ (s.2.2.2.2.2.1 i < 1000 → s.2.2.2.2.2.1 i < i ∧ i ≤ s.2.2.2.2.2.2.2 (s.2.2.2.2.2.1 i)) ∧ (s.2.2.2.2.2.2.1 i < 1000 → s.2.2.2.2.2.2.1 i < i ∧ i ≤ s.2.2.2.2.2.2.2 (s.2.2.2.2.2.2.1 i))
section CD
theorem cd_un_le {un : Nat → Nat} {n a j : Nat} (h : un j ≤ n) : un j ≤ cd_un un n a j ∧ cd_un un n a j ≤ n := by
  rw [cd_un]
  split
  · by_cases e : j = a
    · rw [e, mp_up_s]
      rw [e] at h
      omega
    · rw [mp_up_n e]
      omega
  · omega
theorem cd_un_at {un : Nat → Nat} {n a : Nat} (h : a < 1000) : cd_un un n a a = n := by
  rw [cd_un, if_pos h, mp_up_s]
theorem cd_ok_ap {s : cd_T} {r nd o a b : Nat} {nu : Int32} (h : cd_ok s) (ha : a < 1000 → a < s.1) (hb : b < 1000 → b < s.1) : cd_ok (cd_ap s r nd o nu a b) := by
  obtain ⟨n, cr, cn, co, cm, sa, sb, un⟩ := s
  have h : ∀ i, i < n → i ≤ un i ∧ un i < n ∧ (sa i < 1000 → sa i < i ∧ i ≤ un (sa i)) ∧ (sb i < 1000 → sb i < i ∧ i ≤ un (sb i)) := h
  have ha : a < 1000 → a < n := ha
  have hb : b < 1000 → b < n := hb
  intro i hi
  have hi : i < n + 1 := hi
  show i ≤ cd_un (cd_un (va_up un n n) n a) n b i ∧ cd_un (cd_un (va_up un n n) n a) n b i < n + 1 ∧ (va_up sa n a i < 1000 → va_up sa n a i < i ∧ i ≤ cd_un (cd_un (va_up un n n) n a) n b (va_up sa n a i)) ∧ (va_up sb n b i < 1000 → va_up sb n b i < i ∧ i ≤ cd_un (cd_un (va_up un n n) n a) n b (va_up sb n b i))
  have v : ∀ j, j < n + 1 → va_up un n n j ≤ cd_un (cd_un (va_up un n n) n a) n b j ∧ cd_un (cd_un (va_up un n n) n a) n b j ≤ n := fun j hj => by
    have h0 : va_up un n n j ≤ n := by
      by_cases e : j = n
      · rw [e, mp_up_s]; exact Nat.le_refl _
      · rw [mp_up_n e]
        exact Nat.le_of_lt (h j (by omega)).2.1
    have h1 := cd_un_le (a := a) h0
    have h2 := cd_un_le (a := b) h1.2
    omega
  have vi := v i hi
  by_cases e : i = n
  · subst e
    rw [mp_up_s] at vi
    rw [mp_up_s, mp_up_s]
    refine ⟨by omega, by omega, fun h1 => ⟨ha h1, ?_⟩, fun h1 => ⟨hb h1, ?_⟩⟩
    · have hk := cd_un_at (un := va_up un i i) (n := i) h1
      have := cd_un_le (un := cd_un (va_up un i i) i a) (n := i) (a := b) (j := a) (by omega)
      omega
    · rw [cd_un_at h1]
      exact Nat.le_refl _
  · rw [mp_up_n e] at vi
    rw [mp_up_n e, mp_up_n e]
    obtain ⟨x1, x2, x3, x4⟩ := h i (by omega)
    refine ⟨by omega, by omega, fun h1 => ?_, fun h1 => ?_⟩
    · have := x3 h1
      have w := v (sa i) (by omega)
      rw [mp_up_n (show sa i ≠ n by omega)] at w
      omega
    · have := x4 h1
      have w := v (sb i) (by omega)
      rw [mp_up_n (show sb i ≠ n by omega)] at w
      omega
theorem cd_ok_0 : cd_ok cd_0 := fun i hi => absurd hi (Nat.not_lt_zero _)
end CD
end
section
/-! Running the code: by results of instructions (the reference), by places (the class). -/
def ex_cal (vr : Nat → Int32) (o : Nat) (v a b : Int32) : Int32 :=
  if o = 0 then v else if o = 1 then vr v.toNatClampNeg else if o = 2 then 100 + v else if o = 3 then -a else if o = 4 then a + a else if o = 5 then a + b else if o = 6 then a - b else if o = 7 then a * b else a
def ex_src (res : Nat → Int32) (s : Nat) : Int32 := if s < 1000 then res s else 0
def ex_ok (vr : Nat → Int32) (s : cd_T) (res : Nat → Int32) : Prop := ∀ i, i < s.1 → res i = ex_cal vr (s.2.2.2.1 i) (s.2.2.2.2.1 i) (ex_src res (s.2.2.2.2.2.1 i)) (ex_src res (s.2.2.2.2.2.2.1 i))
/-- what the places hold ahead of instruction i -/
def ex_mem (un pl : Nat → Nat) (res mem : Nat → Int32) (i : Nat) : Prop := (∀ j, j < i → i ≤ un j → mem (pl j) = res j) ∧ (0 < i → mem (pl (i - 1)) = res (i - 1))
theorem ex_mem_0 {un pl : Nat → Nat} {res mem : Nat → Int32} : ex_mem un pl res mem 0 := ⟨fun j hj => absurd hj (Nat.not_lt_zero _), fun h => absurd h (Nat.lt_irrefl _)⟩
theorem ex_mem_s {reg sc n i : Nat} {un pl : Nat → Nat} {res mem : Nat → Int32} (hok : pl_ok reg un n pl sc) (hi : i < n) (h : ex_mem un pl res mem i) : ex_mem un pl res (upd mem (pl i) (res i)) (i + 1) := by
  refine ⟨fun j hj hu => ?_, fun _ => ?_⟩
  · by_cases e : j = i
    · rw [e]; exact pk_us
    · have hne : pl j ≠ pl i := fun h2 => by
        have := hok.1 j i (by omega) hi h2
        omega
      rw [pk_un hne]
      exact h.1 j (by omega) (by omega)
  · show upd mem (pl i) (res i) (pl i) = res i
    exact pk_us
theorem ex_uniq {vr : Nat → Int32} {s : cd_T} {res res' : Nat → Int32} (hc : cd_ok s) (h : ex_ok vr s res) (h' : ex_ok vr s res') : ∀ i, i < s.1 → res i = res' i := by
  intro i
  induction i using Nat.strongRecOn with
  | ind i ih =>
    intro hi
    have e1 : ex_src res (s.2.2.2.2.2.1 i) = ex_src res' (s.2.2.2.2.2.1 i) := by
      rw [ex_src, ex_src]
      split
      · rename_i hs
        have := ((hc i hi).2.2.1 hs).1
        exact ih _ this (by omega)
      · rfl
    have e2 : ex_src res (s.2.2.2.2.2.2.1 i) = ex_src res' (s.2.2.2.2.2.2.1 i) := by
      rw [ex_src, ex_src]
      split
      · rename_i hs
        have := ((hc i hi).2.2.2 hs).1
        exact ih _ this (by omega)
      · rfl
    rw [h i hi, h' i hi, e1, e2]
end
section
/-! Trees in a row: every node behind its kids. -/
def tr_ok (op sz : Nat → Nat) (m : Nat) : Prop := ∀ i, i < m → op i < 8 ∧ 1 ≤ sz i ∧ sz i ≤ i + 1 ∧ (zz_kd (op i) = 0 → sz i = 1) ∧ (zz_kd (op i) = 1 → 1 ≤ i ∧ sz i = 1 + sz (i - 1)) ∧ (zz_kd (op i) = 2 → 2 ≤ i ∧ sz (i - 1) + 1 ≤ i ∧ sz i = 1 + sz (i - 1 - sz (i - 1)) + sz (i - 1))
def tr_fa (op sz : Nat → Nat) (i : Nat) : Nat := if zz_kd (op i) = 2 then i - 1 - sz (i - 1) else i - 1
theorem tr_kd (k : Nat) : zz_kd k = 0 ∨ zz_kd k = 1 ∨ zz_kd k = 2 := by
  unfold zz_kd
  split
  · exact Or.inl rfl
  · split
    · exact Or.inr (Or.inl rfl)
    · exact Or.inr (Or.inr rfl)
/-- the trees that are left ahead of x, down to fm; of each root 'ok' holds -/
def tr_fr (sz : Nat → Nat) (ok : Nat → Prop) (fm : Nat) : Nat → List Nat → Prop
  | x, [] => x = fm
  | x, p :: L => x = p + 1 ∧ fm + sz p ≤ x ∧ ok p ∧ tr_fr sz ok fm (x - sz p) L
section TR
variable {op sz : Nat → Nat} {ok ok' : Nat → Prop} {m fm x : Nat}
theorem tr_fr_ge {L : List Nat} (h : tr_fr sz ok fm x L) : fm ≤ x := by
  cases L with
  | nil => exact Nat.le_of_eq h.symm
  | cons p L =>
    have := h.2.1
    omega
theorem tr_fr_mono : ∀ (L : List Nat) {x : Nat}, tr_fr sz ok fm x L → (∀ p, p < x → fm ≤ p → ok p → ok' p) → (∀ i, i < x → 1 ≤ sz i) → tr_fr sz ok' fm x L
  | [], _, h, _, _ => h
  | p :: L, x, h, hm, hs => by
    obtain ⟨h1, h2, h3, h4⟩ := h
    have := hs p (by omega)
    have h5 := tr_fr_ge h4
    exact ⟨h1, h2, hm p (by omega) (by omega) h3, tr_fr_mono L h4 (fun p hp => hm p (by omega)) (fun i hi => hs i (by omega))⟩
/-- the last tree's root is taken: its kids' trees are left -/
theorem tr_fr_step (ht : tr_ok op sz m) {p : Nat} {L : List Nat} (hp : p < m) (h : tr_fr sz ok fm (p + 1) L) (hne : fm ≤ p) (h1 : zz_kd (op p) = 1 → ok' (p - 1)) (h2 : zz_kd (op p) = 2 → ok' (p - 1) ∧ ok' (tr_fa op sz p)) (hm : ∀ i, i + sz p ≤ p → fm ≤ i → ok i → ok' i) : ∃ L', tr_fr sz ok' fm p L' := by
  obtain ⟨t1, t2, t3, t4, t5, t6⟩ := ht p hp
  cases L with
  | nil =>
    have h : p + 1 = fm := h
    omega
  | cons p' L =>
    obtain ⟨a1, a2, a3, a4⟩ := h
    have e : p' = p := by omega
    subst e
    have hs : ∀ i, i < p' + 1 → 1 ≤ sz i := fun i hi => (ht i (by omega)).2.1
    have hL : tr_fr sz ok' fm (p' + 1 - sz p') L := tr_fr_mono L a4 (fun i hi hf => hm i (by omega) hf) (fun i hi => hs i (by omega))
    rcases tr_kd (op p') with hk | hk | hk
    · have := t4 hk
      refine ⟨L, ?_⟩
      rw [show p' + 1 - sz p' = p' by omega] at hL
      exact hL
    · obtain ⟨b1, b2⟩ := t5 hk
      refine ⟨(p' - 1) :: L, by omega, by omega, h1 hk, ?_⟩
      rw [show p' + 1 - sz p' = p' - sz (p' - 1) by omega] at hL
      exact hL
    · obtain ⟨b1, b2, b3⟩ := t6 hk
      have ef : tr_fa op sz p' = p' - 1 - sz (p' - 1) := by rw [tr_fa, if_pos hk]
      have c := h2 hk
      rw [ef] at c
      refine ⟨(p' - 1) :: (p' - 1 - sz (p' - 1)) :: L, by omega, by omega, c.1, by omega, by omega, c.2, ?_⟩
      rw [show p' + 1 - sz p' = p' - sz (p' - 1) - sz (p' - 1 - sz (p' - 1)) by omega] at hL
      exact hL
/-- a node's kids lie ahead of it, in its own tree -/
theorem tr_kid (ht : tr_ok op sz m) {p : Nat} {L : List Nat} (hp : p < m) (h : tr_fr sz ok fm (p + 1) L) (hne : fm ≤ p) : ok p ∧ (0 < zz_kd (op p) → fm ≤ p - 1 ∧ 1 ≤ p ∧ fm ≤ tr_fa op sz p ∧ tr_fa op sz p < p) := by
  obtain ⟨t1, t2, t3, t4, t5, t6⟩ := ht p hp
  cases L with
  | nil =>
    have h : p + 1 = fm := h
    omega
  | cons p' L =>
    obtain ⟨a1, a2, a3, a4⟩ := h
    have e : p' = p := by omega
    subst e
    refine ⟨a3, fun hk0 => ?_⟩
    rcases tr_kd (op p') with hk | hk | hk
    · omega
    · obtain ⟨b1, b2⟩ := t5 hk
      have := (ht (p' - 1) (by omega)).2.1
      rw [tr_fa, if_neg (by omega)]
      omega
    · obtain ⟨b1, b2, b3⟩ := t6 hk
      have c1 := (ht (p' - 1) (by omega)).2.1
      have c2 := (ht (p' - 1 - sz (p' - 1)) (by omega)).2.1
      rw [tr_fa, if_pos hk]
      omega
end TR
end
section
section ZB
variable {p : Program} {l : Launch} {e : Env} {R : Room} {s : State} {m : MethodId} {args : Array Value} {below : List Frame} {meth : Method} {c : Code} {H : Heap} {locs : List Loc} {cells slots : Nat} {Q : State → Prop} {cc : ByteArray} {maxL : Nat} {ret : Option FieldType} {own : String} {pc : Nat} {ls : Array Slot} {rest : List Value} {off : Int} {tgt : Nat}
theorem zz_beq {P : Prop} [Decidable P] (hC : zz_C p s m args meth c cc maxL ret own) (hdg : decode cc pc = .ok (.ifCond .eq off, 3)) (ht : (pc : Int) + off = (tgt : Int)) (kt : ¬ P → W p l e R s m args below meth c H locs cells slots Q (F0 m tgt ls rest)) (kf : P → W p l e R s m args below meth c H locs cells slots Q (F0 m (pc + 3) ls rest)) : W p l e R s m args below meth c H locs cells slots Q (F0 m pc ls (.int (nI (if P then 1 else 0)) :: rest)) := by
  by_cases h : P
  · rw [if_pos h]
    exact zz_ieq hC hdg ht (by decide) (fun h2 => absurd h2 (by decide)) (fun _ => kf h)
  · rw [if_neg h]
    exact zz_ieq hC hdg ht (by decide) (fun _ => kt h) (fun h2 => absurd rfl h2)
theorem zz_bne {P : Prop} [Decidable P] (hC : zz_C p s m args meth c cc maxL ret own) (hdg : decode cc pc = .ok (.ifCond .ne off, 3)) (ht : (pc : Int) + off = (tgt : Int)) (kt : P → W p l e R s m args below meth c H locs cells slots Q (F0 m tgt ls rest)) (kf : ¬ P → W p l e R s m args below meth c H locs cells slots Q (F0 m (pc + 3) ls rest)) : W p l e R s m args below meth c H locs cells slots Q (F0 m pc ls (.int (nI (if P then 1 else 0)) :: rest)) := by
  by_cases h : P
  · rw [if_pos h]
    exact zz_ine hC hdg ht (by decide) (fun _ => kt h) (fun h2 => absurd h2 (by decide))
  · rw [if_neg h]
    exact zz_ine hC hdg ht (by decide) (fun h2 => absurd rfl h2) (fun _ => kf h)
theorem zz_narb {P : Prop} [Decidable P] : narrow .boolean (.int (nI (if P then 1 else 0))) = .int (nI (if P then 1 else 0)) := by
  by_cases h : P
  · rw [if_pos h]; rfl
  · rw [if_neg h]; rfl
end ZB
end
section
/-! What the cells of the class hold: pile, rules. -/
def zz_off (X : Nat → Prop) (S S1 : zz_S) : Prop := ∀ c, ¬ X c → S1.1 c = S.1 c ∧ S1.2 c = S.2 c
theorem zz_max {a b : Nat} (ha : a < 2 ^ 31) (hb : b < 2 ^ 31) : (if nI a < nI b then nI b else nI a) = nI (max a b) := by
  by_cases h : a < b
  · rw [if_pos ((nI_ltI ha hb).mpr h), Nat.max_eq_right (Nat.le_of_lt h)]
  · rw [if_neg (fun x => h ((nI_ltI ha hb).mp x)), Nat.max_eq_left (Nat.le_of_not_lt h)]
theorem zz_min {a b : Nat} (ha : a < 2 ^ 31) (hb : b < 2 ^ 31) : (if nI b < nI a then nI b else nI a) = nI (min a b) := by
  by_cases h : b < a
  · rw [if_pos ((nI_ltI hb ha).mpr h), Nat.min_eq_right (Nat.le_of_lt h)]
  · rw [if_neg (fun x => h ((nI_ltI hb ha).mp x)), Nat.min_eq_left (Nat.le_of_not_lt h)]
theorem zz_asub {t k : Nat} (h : k ≤ t + 1) : nI t + (nI 1 - nI k) = nI (t + 1 - k) := by
  rw [← pk_sub h, ← nI_add, Int32.sub_eq_add_neg, Int32.sub_eq_add_neg, Int32.add_assoc]
/-- where the trees begin: tree j holds the nodes ps j .. ps (j + 1) - 1, its root the last -/
def ts_ok (sz : Nat → Nat) (m t : Nat) (ps : Nat → Nat) : Prop := ps 0 = 0 ∧ ps t = m ∧ ∀ j, j < t → ps j < ps (j + 1) ∧ sz (ps (j + 1) - 1) = ps (j + 1) - ps j
def xp_ok (S : zz_S) (op : Nat → Nat) (nu : Nat → Int32) (sz ht : Nat → Nat) (m t : Nat) : Prop :=
  S.1 18 7 = nI m ∧ S.1 18 8 = nI t ∧ m ≤ 40 ∧ t ≤ m ∧ (∀ i, i < m → S.1 19 i = nI (op i) ∧ S.1 20 i = nu i ∧ S.1 21 i = nI (sz i) ∧ S.1 22 i = nI (ht i) ∧ ht i ≤ 10) ∧ tr_ok op sz m ∧ (t = 0 → m = 0)
def xp_add (S : zz_S) (m o : Nat) (v : Int32) (s h t : Nat) : zz_S := zz_u (zz_u (zz_u (zz_u (zz_u (zz_u S 22 m (nI h)) 21 m (nI s)) 19 m (nI o)) 20 m v) 18 7 (nI (m + 1))) 18 8 (nI t)
def xp_fk (sz : Nat → Nat) (i o : Nat) : Nat := if zz_kd o = 2 then i - 1 - sz (i - 1) else i - 1
def xp_hi (sz ht : Nat → Nat) (m o : Nat) : Nat := if zz_kd o = 0 then 1 else 1 + max (ht (xp_fk sz m o)) (ht (m - 1))
def xp_sz (sz : Nat → Nat) (m o : Nat) : Nat := if zz_kd o = 0 then 1 else 1 + (m - xp_fk sz m o - 1 + sz (xp_fk sz m o))
end
section
/-! The class's small questions. Laid by wip/whole/prog/p1.py. -/
set_option maxHeartbeats 4000000 in
set_option maxRecDepth 100000 in
theorem c_Forge_isKind (l : Launch) (q : xg_T) (S : zz_S) (x : Int32) : Met l y_Forge_isKind (Cond.code y_Forge_isKind b_Forge_isKind 1 (some .boolean) :: zz_tbl) rm_Forge_isKind (zz_Pc [.int x] (xg_G q) S) (va_Qi (fun ans S1 => S = S1 ∧ ans = nI (if 0 ≤ x.toInt ∧ x.toInt < 4 then 1 else 0)) (zz_P (xg_G q)) (zz_A (xg_G q))) 0 0 (zz_A (xg_G q)) := by
  refine zz_met (by decide) (Nat.le_of_ble_eq_true rfl) ?_
  intro p_ e_ s_ m_ bl_ mt_ c_ ls hC hK hZ hl
  have hC : zz_C p_ s_ m_ _ mt_ c_ b_Forge_isKind 1 (some .boolean) "TreeCoverForge" := hC
  have hx_ := hC.1
  have hb_ := hC.2.1
  have hl : lv_has ls 1 [(0, .int x)] := hl
  refine lv_iload_n hx_ hb_ d_Forge_isKind_0 rfl (lv_at hl 0 rfl) ?_
  refine zz_rilt (tgt := 13) hC d_Forge_isKind_1 (by decide) (fun h1 => ?_) (fun h1 => ?_)
  · refine lv_iconst (v := nI 0) hx_ hb_ d_Forge_isKind_13 (by decide) ?_
    exact zz_zret hC hK hZ rfl d_Forge_isKind_14 (by decide) ⟨rfl, by rw [if_neg (by omega)]⟩
  · refine lv_iload_n hx_ hb_ d_Forge_isKind_4 rfl (lv_at hl 0 rfl) ?_
    refine lv_iconst (v := nI 4) hx_ hb_ d_Forge_isKind_5 (by decide) ?_
    refine zz_rjge (tgt := 13) hC d_Forge_isKind_6 (by decide) (fun h6 => ?_) (fun h6 => ?_)
    · rw [nI_toInt (by omega)] at h6
      refine lv_iconst (v := nI 0) hx_ hb_ d_Forge_isKind_13 (by decide) ?_
      exact zz_zret hC hK hZ rfl d_Forge_isKind_14 (by decide) ⟨rfl, by rw [if_neg (by omega)]⟩
    · rw [nI_toInt (by omega)] at h6
      refine lv_iconst (v := nI 1) hx_ hb_ d_Forge_isKind_9 (by decide) ?_
      refine lv_goto (tgt := 14) hx_ hb_ d_Forge_isKind_10 (by decide) ?_
      exact zz_zret hC hK hZ rfl d_Forge_isKind_14 (by decide) ⟨rfl, by rw [if_pos (by omega)]⟩
set_option maxHeartbeats 4000000 in
set_option maxRecDepth 100000 in
theorem c_Forge_isVariable (l : Launch) (q : xg_T) (S : zz_S) (x : Int32) : Met l y_Forge_isVariable (Cond.code y_Forge_isVariable b_Forge_isVariable 1 (some .boolean) :: zz_tbl) rm_Forge_isVariable (zz_Pc [.int x] (xg_G q) S) (va_Qi (fun ans S1 => S = S1 ∧ ans = nI (if 0 ≤ x.toInt ∧ x.toInt < 8 then 1 else 0)) (zz_P (xg_G q)) (zz_A (xg_G q))) 0 0 (zz_A (xg_G q)) := by
  refine zz_met (by decide) (Nat.le_of_ble_eq_true rfl) ?_
  intro p_ e_ s_ m_ bl_ mt_ c_ ls hC hK hZ hl
  have hC : zz_C p_ s_ m_ _ mt_ c_ b_Forge_isVariable 1 (some .boolean) "TreeCoverForge" := hC
  have hx_ := hC.1
  have hb_ := hC.2.1
  have hl : lv_has ls 1 [(0, .int x)] := hl
  refine lv_iload_n hx_ hb_ d_Forge_isVariable_0 rfl (lv_at hl 0 rfl) ?_
  refine zz_rilt (tgt := 14) hC d_Forge_isVariable_1 (by decide) (fun h1 => ?_) (fun h1 => ?_)
  · refine lv_iconst (v := nI 0) hx_ hb_ d_Forge_isVariable_14 (by decide) ?_
    exact zz_zret hC hK hZ rfl d_Forge_isVariable_15 (by decide) ⟨rfl, by rw [if_neg (by omega)]⟩
  · refine lv_iload_n hx_ hb_ d_Forge_isVariable_4 rfl (lv_at hl 0 rfl) ?_
    refine lv_bipush (v := nI 8) hx_ hb_ d_Forge_isVariable_5 (by decide) ?_
    refine zz_rjge (tgt := 14) hC d_Forge_isVariable_7 (by decide) (fun h7 => ?_) (fun h7 => ?_)
    · rw [nI_toInt (by omega)] at h7
      refine lv_iconst (v := nI 0) hx_ hb_ d_Forge_isVariable_14 (by decide) ?_
      exact zz_zret hC hK hZ rfl d_Forge_isVariable_15 (by decide) ⟨rfl, by rw [if_neg (by omega)]⟩
    · rw [nI_toInt (by omega)] at h7
      refine lv_iconst (v := nI 1) hx_ hb_ d_Forge_isVariable_10 (by decide) ?_
      refine lv_goto (tgt := 15) hx_ hb_ d_Forge_isVariable_11 (by decide) ?_
      exact zz_zret hC hK hZ rfl d_Forge_isVariable_15 (by decide) ⟨rfl, by rw [if_pos (by omega)]⟩
set_option maxHeartbeats 4000000 in
set_option maxRecDepth 100000 in
theorem c_Forge_isNumberFor (l : Launch) (q : xg_T) (S : zz_S) (o : Nat) (v : Int32) (ho : o < 8) : Met l y_Forge_isNumberFor (Cond.code y_Forge_isNumberFor b_Forge_isNumberFor 2 (some .boolean) :: zz_tbl) rm_Forge_isNumberFor (zz_Pc [.int (nI o), .int v] (xg_G q) S) (va_Qi (fun ans S1 => S = S1 ∧ ans = nI (if (o = 1 ∨ o = 2) → 0 ≤ v.toInt ∧ v.toInt < 8 then 1 else 0)) (zz_P (xg_G q)) (zz_A (xg_G q))) 0 0 (zz_A (xg_G q)) := by
  refine zz_met (by decide) (Nat.le_of_ble_eq_true rfl) ?_
  intro p_ e_ s_ m_ bl_ mt_ c_ ls hC hK hZ hl
  have hC : zz_C p_ s_ m_ _ mt_ c_ b_Forge_isNumberFor 2 (some .boolean) "TreeCoverForge" := hC
  have hx_ := hC.1
  have hb_ := hC.2.1
  have hl : lv_has ls 2 [(0, .int (nI o)), (1, .int v)] := hl
  refine lv_iload_n hx_ hb_ d_Forge_isNumberFor_0 rfl (lv_at hl 0 rfl) ?_
  refine lv_iconst (v := nI 1) hx_ hb_ d_Forge_isNumberFor_1 (by decide) ?_
  refine zz_jeq (tgt := 10) hC d_Forge_isNumberFor_2 (by decide) (by omega) (by omega) (fun h2 => ?_) (fun h2 => ?_)
  · refine lv_iload_n hx_ hb_ d_Forge_isNumberFor_10 rfl (lv_at hl 1 rfl) ?_
    refine zz_ci (zz_rS (As := [.int v]) (rest := []) hC hK hZ (c_Forge_isVariable l q S v) k_Forge_isVariable wd_338 ⟨rfl, rfl, by decide, by decide⟩ rfl hl.1 rfl (Nat.le_of_ble_eq_true rfl) d_Forge_isNumberFor_11 ⟨Nat.zero_le _, Nat.zero_le _⟩) hZ (fun r11 S11 H locs hp11 hZ => ?_)
    obtain ⟨rfl, rfl⟩ := hp11
    refine zz_beq (tgt := 21) hC d_Forge_isNumberFor_14 (by decide) (fun h14 => ?_) (fun h14 => ?_)
    · refine lv_iconst (v := nI 0) hx_ hb_ d_Forge_isNumberFor_21 (by decide) ?_
      exact zz_zret hC hK hZ rfl d_Forge_isNumberFor_22 (by decide) ⟨rfl, by rw [if_neg (by omega)]⟩
    · refine lv_iconst (v := nI 1) hx_ hb_ d_Forge_isNumberFor_17 (by decide) ?_
      refine lv_goto (tgt := 22) hx_ hb_ d_Forge_isNumberFor_18 (by decide) ?_
      exact zz_zret hC hK hZ rfl d_Forge_isNumberFor_22 (by decide) ⟨rfl, by rw [if_pos (by omega)]⟩
  · refine lv_iload_n hx_ hb_ d_Forge_isNumberFor_5 rfl (lv_at hl 0 rfl) ?_
    refine lv_iconst (v := nI 2) hx_ hb_ d_Forge_isNumberFor_6 (by decide) ?_
    refine zz_jne (tgt := 17) hC d_Forge_isNumberFor_7 (by decide) (by omega) (by omega) (fun h7 => ?_) (fun h7 => ?_)
    · refine lv_iconst (v := nI 1) hx_ hb_ d_Forge_isNumberFor_17 (by decide) ?_
      refine lv_goto (tgt := 22) hx_ hb_ d_Forge_isNumberFor_18 (by decide) ?_
      exact zz_zret hC hK hZ rfl d_Forge_isNumberFor_22 (by decide) ⟨rfl, by rw [if_pos (by omega)]⟩
    · refine lv_iload_n hx_ hb_ d_Forge_isNumberFor_10 rfl (lv_at hl 1 rfl) ?_
      refine zz_ci (zz_rS (As := [.int v]) (rest := []) hC hK hZ (c_Forge_isVariable l q S v) k_Forge_isVariable wd_338 ⟨rfl, rfl, by decide, by decide⟩ rfl hl.1 rfl (Nat.le_of_ble_eq_true rfl) d_Forge_isNumberFor_11 ⟨Nat.zero_le _, Nat.zero_le _⟩) hZ (fun r11 S11 H locs hp11 hZ => ?_)
      obtain ⟨rfl, rfl⟩ := hp11
      refine zz_beq (tgt := 21) hC d_Forge_isNumberFor_14 (by decide) (fun h14 => ?_) (fun h14 => ?_)
      · refine lv_iconst (v := nI 0) hx_ hb_ d_Forge_isNumberFor_21 (by decide) ?_
        exact zz_zret hC hK hZ rfl d_Forge_isNumberFor_22 (by decide) ⟨rfl, by rw [if_neg (by omega)]⟩
      · refine lv_iconst (v := nI 1) hx_ hb_ d_Forge_isNumberFor_17 (by decide) ?_
        refine lv_goto (tgt := 22) hx_ hb_ d_Forge_isNumberFor_18 (by decide) ?_
        exact zz_zret hC hK hZ rfl d_Forge_isNumberFor_22 (by decide) ⟨rfl, by rw [if_pos (by omega)]⟩
set_option maxHeartbeats 4000000 in
set_option maxRecDepth 100000 in
theorem c_Forge_fitsOperator (l : Launch) (q : xg_T) (S : zz_S) (k : Int32) (o : Nat) (a b : Int32) (ho : o ≤ 8) : Met l y_Forge_fitsOperator (Cond.code y_Forge_fitsOperator b_Forge_fitsOperator 4 (some .boolean) :: zz_tbl) rm_Forge_fitsOperator (zz_Pc [.int k, .int (nI o), .int a, .int b] (xg_G q) S) (va_Qi (fun ans S1 => S = S1 ∧ ans = nI (if (o = 8 ∧ a.toInt ≠ k.toInt ∧ b.toInt = 0) ∨ (o ≠ 8 ∧ (1 ≤ zz_kd o ∨ a.toInt = 0) ∧ (zz_kd o = 2 ∨ b.toInt = 0)) then 1 else 0)) (zz_P (xg_G q)) (zz_A (xg_G q))) 0 0 (zz_A (xg_G q)) := by
  refine zz_met (by decide) (Nat.le_of_ble_eq_true rfl) ?_
  intro p_ e_ s_ m_ bl_ mt_ c_ ls hC hK hZ hl
  have hC : zz_C p_ s_ m_ _ mt_ c_ b_Forge_fitsOperator 4 (some .boolean) "TreeCoverForge" := hC
  have hx_ := hC.1
  have hb_ := hC.2.1
  have hl : lv_has ls 4 [(0, .int k), (1, .int (nI o)), (2, .int a), (3, .int b)] := hl
  have hkd := tr_kd o
  refine lv_iload_n hx_ hb_ d_Forge_fitsOperator_0 rfl (lv_at hl 1 rfl) ?_
  refine lv_bipush (v := nI 8) hx_ hb_ d_Forge_fitsOperator_1 (by decide) ?_
  refine zz_jne (tgt := 21) hC d_Forge_fitsOperator_3 (by decide) (by omega) (by omega) (fun h3 => ?_) (fun h3 => ?_)
  · refine zz_gars (ref := "") hC hK hZ wd_258 d_Forge_fitsOperator_21 ?_
    refine lv_iload_n hx_ hb_ d_Forge_fitsOperator_24 rfl (lv_at hl 1 rfl) ?_
    refine zz_ari hC hK hZ o rfl (by omega) d_Forge_fitsOperator_25 ?_
    refine lv_iconst (v := nI 1) hx_ hb_ d_Forge_fitsOperator_26 (by decide) ?_
    refine zz_jge (tgt := 34) hC d_Forge_fitsOperator_27 (by decide) (by omega) (by omega) (fun h27 => ?_) (fun h27 => ?_)
    · refine zz_gars (ref := "") hC hK hZ wd_258 d_Forge_fitsOperator_34 ?_
      refine lv_iload_n hx_ hb_ d_Forge_fitsOperator_37 rfl (lv_at hl 1 rfl) ?_
      refine zz_ari hC hK hZ o rfl (by omega) d_Forge_fitsOperator_38 ?_
      refine lv_iconst (v := nI 2) hx_ hb_ d_Forge_fitsOperator_39 (by decide) ?_
      refine zz_jeq (tgt := 47) hC d_Forge_fitsOperator_40 (by decide) (by omega) (by omega) (fun h40 => ?_) (fun h40 => ?_)
      · refine lv_iconst (v := nI 1) hx_ hb_ d_Forge_fitsOperator_47 (by decide) ?_
        refine lv_goto (tgt := 52) hx_ hb_ d_Forge_fitsOperator_48 (by decide) ?_
        exact zz_zret hC hK hZ rfl d_Forge_fitsOperator_52 (by decide) ⟨rfl, by rw [if_pos (by omega)]⟩
      · refine lv_iload_n hx_ hb_ d_Forge_fitsOperator_43 rfl (lv_at hl 3 rfl) ?_
        refine zz_rine (tgt := 51) hC d_Forge_fitsOperator_44 (by decide) (fun h44 => ?_) (fun h44 => ?_)
        · refine lv_iconst (v := nI 0) hx_ hb_ d_Forge_fitsOperator_51 (by decide) ?_
          exact zz_zret hC hK hZ rfl d_Forge_fitsOperator_52 (by decide) ⟨rfl, by rw [if_neg (by omega)]⟩
        · refine lv_iconst (v := nI 1) hx_ hb_ d_Forge_fitsOperator_47 (by decide) ?_
          refine lv_goto (tgt := 52) hx_ hb_ d_Forge_fitsOperator_48 (by decide) ?_
          exact zz_zret hC hK hZ rfl d_Forge_fitsOperator_52 (by decide) ⟨rfl, by rw [if_pos (by omega)]⟩
    · refine lv_iload_n hx_ hb_ d_Forge_fitsOperator_30 rfl (lv_at hl 2 rfl) ?_
      refine zz_rine (tgt := 51) hC d_Forge_fitsOperator_31 (by decide) (fun h31 => ?_) (fun h31 => ?_)
      · refine lv_iconst (v := nI 0) hx_ hb_ d_Forge_fitsOperator_51 (by decide) ?_
        exact zz_zret hC hK hZ rfl d_Forge_fitsOperator_52 (by decide) ⟨rfl, by rw [if_neg (by omega)]⟩
      · refine zz_gars (ref := "") hC hK hZ wd_258 d_Forge_fitsOperator_34 ?_
        refine lv_iload_n hx_ hb_ d_Forge_fitsOperator_37 rfl (lv_at hl 1 rfl) ?_
        refine zz_ari hC hK hZ o rfl (by omega) d_Forge_fitsOperator_38 ?_
        refine lv_iconst (v := nI 2) hx_ hb_ d_Forge_fitsOperator_39 (by decide) ?_
        refine zz_jeq (tgt := 47) hC d_Forge_fitsOperator_40 (by decide) (by omega) (by omega) (fun h40 => ?_) (fun h40 => ?_)
        · refine lv_iconst (v := nI 1) hx_ hb_ d_Forge_fitsOperator_47 (by decide) ?_
          refine lv_goto (tgt := 52) hx_ hb_ d_Forge_fitsOperator_48 (by decide) ?_
          exact zz_zret hC hK hZ rfl d_Forge_fitsOperator_52 (by decide) ⟨rfl, by rw [if_pos (by omega)]⟩
        · refine lv_iload_n hx_ hb_ d_Forge_fitsOperator_43 rfl (lv_at hl 3 rfl) ?_
          refine zz_rine (tgt := 51) hC d_Forge_fitsOperator_44 (by decide) (fun h44 => ?_) (fun h44 => ?_)
          · refine lv_iconst (v := nI 0) hx_ hb_ d_Forge_fitsOperator_51 (by decide) ?_
            exact zz_zret hC hK hZ rfl d_Forge_fitsOperator_52 (by decide) ⟨rfl, by rw [if_neg (by omega)]⟩
          · refine lv_iconst (v := nI 1) hx_ hb_ d_Forge_fitsOperator_47 (by decide) ?_
            refine lv_goto (tgt := 52) hx_ hb_ d_Forge_fitsOperator_48 (by decide) ?_
            exact zz_zret hC hK hZ rfl d_Forge_fitsOperator_52 (by decide) ⟨rfl, by rw [if_pos (by omega)]⟩
  · refine lv_iload_n hx_ hb_ d_Forge_fitsOperator_6 rfl (lv_at hl 2 rfl) ?_
    refine lv_iload_n hx_ hb_ d_Forge_fitsOperator_7 rfl (lv_at hl 0 rfl) ?_
    refine zz_rjeq (tgt := 19) hC d_Forge_fitsOperator_8 (by decide) (fun h8 => ?_) (fun h8 => ?_)
    · refine lv_iconst (v := nI 0) hx_ hb_ d_Forge_fitsOperator_19 (by decide) ?_
      exact zz_zret hC hK hZ rfl d_Forge_fitsOperator_20 (by decide) ⟨rfl, by rw [if_neg (by omega)]⟩
    · refine lv_iload_n hx_ hb_ d_Forge_fitsOperator_11 rfl (lv_at hl 3 rfl) ?_
      refine zz_rine (tgt := 19) hC d_Forge_fitsOperator_12 (by decide) (fun h12 => ?_) (fun h12 => ?_)
      · refine lv_iconst (v := nI 0) hx_ hb_ d_Forge_fitsOperator_19 (by decide) ?_
        exact zz_zret hC hK hZ rfl d_Forge_fitsOperator_20 (by decide) ⟨rfl, by rw [if_neg (by omega)]⟩
      · refine lv_iconst (v := nI 1) hx_ hb_ d_Forge_fitsOperator_15 (by decide) ?_
        refine lv_goto (tgt := 20) hx_ hb_ d_Forge_fitsOperator_16 (by decide) ?_
        exact zz_zret hC hK hZ rfl d_Forge_fitsOperator_20 (by decide) ⟨rfl, by rw [if_pos (by omega)]⟩
set_option maxHeartbeats 4000000 in
set_option maxRecDepth 100000 in
theorem c_Forge_isCostFor (l : Launch) (q : xg_T) (S : zz_S) (o : Nat) (k : Int32) (ho : o ≤ 8) : Met l y_Forge_isCostFor (Cond.code y_Forge_isCostFor b_Forge_isCostFor 2 (some .boolean) :: zz_tbl) rm_Forge_isCostFor (zz_Pc [.int (nI o), .int k] (xg_G q) S) (va_Qi (fun ans S1 => S = S1 ∧ ans = nI (if ((o = 8 ∧ 1 ≤ k.toInt) ∨ (o ≠ 8 ∧ 0 ≤ k.toInt)) ∧ k.toInt ≤ 9 then 1 else 0)) (zz_P (xg_G q)) (zz_A (xg_G q))) 0 0 (zz_A (xg_G q)) := by
  refine zz_met (by decide) (Nat.le_of_ble_eq_true rfl) ?_
  intro p_ e_ s_ m_ bl_ mt_ c_ ls hC hK hZ hl
  have hC : zz_C p_ s_ m_ _ mt_ c_ b_Forge_isCostFor 2 (some .boolean) "TreeCoverForge" := hC
  have hx_ := hC.1
  have hb_ := hC.2.1
  have hl : lv_has ls 2 [(0, .int (nI o)), (1, .int k)] := hl
  refine lv_iload_n hx_ hb_ d_Forge_isCostFor_0 rfl (lv_at hl 1 rfl) ?_
  refine lv_iload_n hx_ hb_ d_Forge_isCostFor_1 rfl (lv_at hl 0 rfl) ?_
  refine lv_bipush (v := nI 8) hx_ hb_ d_Forge_isCostFor_2 (by decide) ?_
  refine zz_jne (tgt := 11) hC d_Forge_isCostFor_4 (by decide) (by omega) (by omega) (fun h4 => ?_) (fun h4 => ?_)
  · refine lv_iconst (v := nI 0) hx_ hb_ d_Forge_isCostFor_11 (by decide) ?_
    refine zz_rjlt (tgt := 25) hC d_Forge_isCostFor_12 (by decide) (fun h12 => ?_) (fun h12 => ?_)
    · rw [nI_toInt (by omega)] at h12
      refine lv_iconst (v := nI 0) hx_ hb_ d_Forge_isCostFor_25 (by decide) ?_
      exact zz_zret hC hK hZ rfl d_Forge_isCostFor_26 (by decide) ⟨rfl, by rw [if_neg (by omega)]⟩
    · rw [nI_toInt (by omega)] at h12
      refine lv_iload_n hx_ hb_ d_Forge_isCostFor_15 rfl (lv_at hl 1 rfl) ?_
      refine lv_bipush (v := nI 9) hx_ hb_ d_Forge_isCostFor_16 (by decide) ?_
      refine zz_rjgt (tgt := 25) hC d_Forge_isCostFor_18 (by decide) (fun h18 => ?_) (fun h18 => ?_)
      · rw [nI_toInt (by omega)] at h18
        refine lv_iconst (v := nI 0) hx_ hb_ d_Forge_isCostFor_25 (by decide) ?_
        exact zz_zret hC hK hZ rfl d_Forge_isCostFor_26 (by decide) ⟨rfl, by rw [if_neg (by omega)]⟩
      · rw [nI_toInt (by omega)] at h18
        refine lv_iconst (v := nI 1) hx_ hb_ d_Forge_isCostFor_21 (by decide) ?_
        refine lv_goto (tgt := 26) hx_ hb_ d_Forge_isCostFor_22 (by decide) ?_
        exact zz_zret hC hK hZ rfl d_Forge_isCostFor_26 (by decide) ⟨rfl, by rw [if_pos (by omega)]⟩
  · refine lv_iconst (v := nI 1) hx_ hb_ d_Forge_isCostFor_7 (by decide) ?_
    refine lv_goto (tgt := 12) hx_ hb_ d_Forge_isCostFor_8 (by decide) ?_
    refine zz_rjlt (tgt := 25) hC d_Forge_isCostFor_12 (by decide) (fun h12 => ?_) (fun h12 => ?_)
    · rw [nI_toInt (by omega)] at h12
      refine lv_iconst (v := nI 0) hx_ hb_ d_Forge_isCostFor_25 (by decide) ?_
      exact zz_zret hC hK hZ rfl d_Forge_isCostFor_26 (by decide) ⟨rfl, by rw [if_neg (by omega)]⟩
    · rw [nI_toInt (by omega)] at h12
      refine lv_iload_n hx_ hb_ d_Forge_isCostFor_15 rfl (lv_at hl 1 rfl) ?_
      refine lv_bipush (v := nI 9) hx_ hb_ d_Forge_isCostFor_16 (by decide) ?_
      refine zz_rjgt (tgt := 25) hC d_Forge_isCostFor_18 (by decide) (fun h18 => ?_) (fun h18 => ?_)
      · rw [nI_toInt (by omega)] at h18
        refine lv_iconst (v := nI 0) hx_ hb_ d_Forge_isCostFor_25 (by decide) ?_
        exact zz_zret hC hK hZ rfl d_Forge_isCostFor_26 (by decide) ⟨rfl, by rw [if_neg (by omega)]⟩
      · rw [nI_toInt (by omega)] at h18
        refine lv_iconst (v := nI 1) hx_ hb_ d_Forge_isCostFor_21 (by decide) ?_
        refine lv_goto (tgt := 26) hx_ hb_ d_Forge_isCostFor_22 (by decide) ?_
        exact zz_zret hC hK hZ rfl d_Forge_isCostFor_26 (by decide) ⟨rfl, by rw [if_pos (by omega)]⟩
set_option maxHeartbeats 4000000 in
set_option maxRecDepth 100000 in
theorem c_Forge_resultOf (l : Launch) (q : xg_T) (S : zz_S) (o : Nat) (v a b : Int32) (ho : o ≤ 8) (hv : o = 1 → v = nI v.toNatClampNeg ∧ v.toNatClampNeg < 8) : Met l y_Forge_resultOf (Cond.code y_Forge_resultOf b_Forge_resultOf 5 (some .int) :: zz_tbl) rm_Forge_resultOf (zz_Pc [.int (nI o), .int v, .int a, .int b, .ref (zz_ad (xg_G q) 41)] (xg_G q) S) (va_Qi (fun ans S1 => S = S1 ∧ ans = ex_cal (S.1 41) o v a b) (zz_P (xg_G q)) (zz_A (xg_G q))) 0 0 (zz_A (xg_G q)) := by
  refine zz_met (by decide) (Nat.le_of_ble_eq_true rfl) ?_
  intro p_ e_ s_ m_ bl_ mt_ c_ ls hC hK hZ hl
  have hC : zz_C p_ s_ m_ _ mt_ c_ b_Forge_resultOf 5 (some .int) "TreeCoverForge" := hC
  have hx_ := hC.1
  have hb_ := hC.2.1
  have hl : lv_has ls 5 [(0, .int (nI o)), (1, .int v), (2, .int a), (3, .int b), (4, .ref (zz_ad (xg_G q) 41))] := hl
  refine lv_iload_n hx_ hb_ d_Forge_resultOf_0 rfl (lv_at hl 0 rfl) ?_
  have hcs : o = 0 ∨ o = 1 ∨ o = 2 ∨ o = 3 ∨ o = 4 ∨ o = 5 ∨ o = 6 ∨ o = 7 ∨ 8 ≤ o := by omega
  rcases hcs with rfl | rfl | rfl | rfl | rfl | rfl | rfl | rfl | hcs
  · refine lv_tableIn (off := 47) (tgt := 48) hx_ hb_ d_Forge_resultOf_1 (by decide) (by decide) rfl (by decide) ?_
    refine lv_iload_n hx_ hb_ d_Forge_resultOf_48 rfl (lv_at hl 1 rfl) ?_
    exact zz_iret hC hK hZ rfl d_Forge_resultOf_49 ⟨rfl, rfl⟩
  · refine lv_tableIn (off := 49) (tgt := 50) hx_ hb_ d_Forge_resultOf_1 (by decide) (by decide) rfl (by decide) ?_
    refine lv_aload hx_ hb_ d_Forge_resultOf_50 (lv_at hl 4 rfl) ?_
    refine lv_iload_n hx_ hb_ d_Forge_resultOf_52 rfl (lv_at hl 1 rfl) ?_
    refine zz_iald hC hK hZ 41 0 v.toNatClampNeg (Nat.le_of_ble_eq_true rfl) (xc_41 q _ _) rfl (hv rfl).1 (hv rfl).2 (by decide) rfl d_Forge_resultOf_53 ?_
    exact zz_iret hC hK hZ rfl d_Forge_resultOf_54 ⟨rfl, rfl⟩
  · refine lv_tableIn (off := 54) (tgt := 55) hx_ hb_ d_Forge_resultOf_1 (by decide) (by decide) rfl (by decide) ?_
    refine lv_bipush (v := nI 100) hx_ hb_ d_Forge_resultOf_55 (by decide) ?_
    refine lv_iload_n hx_ hb_ d_Forge_resultOf_57 rfl (lv_at hl 1 rfl) ?_
    refine lv_iadd hx_ hb_ d_Forge_resultOf_58 ?_
    exact zz_iret hC hK hZ rfl d_Forge_resultOf_59 ⟨rfl, rfl⟩
  · refine lv_tableIn (off := 59) (tgt := 60) hx_ hb_ d_Forge_resultOf_1 (by decide) (by decide) rfl (by decide) ?_
    refine lv_iload_n hx_ hb_ d_Forge_resultOf_60 rfl (lv_at hl 2 rfl) ?_
    refine lv_ineg hx_ hb_ d_Forge_resultOf_61 ?_
    exact zz_iret hC hK hZ rfl d_Forge_resultOf_62 ⟨rfl, rfl⟩
  · refine lv_tableIn (off := 62) (tgt := 63) hx_ hb_ d_Forge_resultOf_1 (by decide) (by decide) rfl (by decide) ?_
    refine lv_iload_n hx_ hb_ d_Forge_resultOf_63 rfl (lv_at hl 2 rfl) ?_
    refine lv_iload_n hx_ hb_ d_Forge_resultOf_64 rfl (lv_at hl 2 rfl) ?_
    refine lv_iadd hx_ hb_ d_Forge_resultOf_65 ?_
    exact zz_iret hC hK hZ rfl d_Forge_resultOf_66 ⟨rfl, rfl⟩
  · refine lv_tableIn (off := 66) (tgt := 67) hx_ hb_ d_Forge_resultOf_1 (by decide) (by decide) rfl (by decide) ?_
    refine lv_iload_n hx_ hb_ d_Forge_resultOf_67 rfl (lv_at hl 2 rfl) ?_
    refine lv_iload_n hx_ hb_ d_Forge_resultOf_68 rfl (lv_at hl 3 rfl) ?_
    refine lv_iadd hx_ hb_ d_Forge_resultOf_69 ?_
    exact zz_iret hC hK hZ rfl d_Forge_resultOf_70 ⟨rfl, rfl⟩
  · refine lv_tableIn (off := 70) (tgt := 71) hx_ hb_ d_Forge_resultOf_1 (by decide) (by decide) rfl (by decide) ?_
    refine lv_iload_n hx_ hb_ d_Forge_resultOf_71 rfl (lv_at hl 2 rfl) ?_
    refine lv_iload_n hx_ hb_ d_Forge_resultOf_72 rfl (lv_at hl 3 rfl) ?_
    refine lv_isub hx_ hb_ d_Forge_resultOf_73 ?_
    exact zz_iret hC hK hZ rfl d_Forge_resultOf_74 ⟨rfl, rfl⟩
  · refine lv_tableIn (off := 74) (tgt := 75) hx_ hb_ d_Forge_resultOf_1 (by decide) (by decide) rfl (by decide) ?_
    refine lv_iload_n hx_ hb_ d_Forge_resultOf_75 rfl (lv_at hl 2 rfl) ?_
    refine lv_iload_n hx_ hb_ d_Forge_resultOf_76 rfl (lv_at hl 3 rfl) ?_
    refine lv_imul hx_ hb_ d_Forge_resultOf_77 ?_
    exact zz_iret hC hK hZ rfl d_Forge_resultOf_78 ⟨rfl, rfl⟩
  · refine lv_tableOut (tgt := 79) hx_ hb_ d_Forge_resultOf_1 (Or.inr (by rw [nI_toInt (by omega)]; omega)) (by decide) ?_
    refine lv_iload_n hx_ hb_ d_Forge_resultOf_79 rfl (lv_at hl 2 rfl) ?_
    exact zz_iret hC hK hZ rfl d_Forge_resultOf_80 ⟨rfl, by rw [ex_cal, if_neg (by omega), if_neg (by omega), if_neg (by omega), if_neg (by omega), if_neg (by omega), if_neg (by omega), if_neg (by omega), if_neg (by omega)]⟩
end
section
/-! The pile of trees. Laid by wip/whole/prog/p2.py. -/
set_option maxHeartbeats 4000000 in
set_option maxRecDepth 100000 in
theorem c_Pile_topSize (l : Launch) (q : xg_T) (S : zz_S) (op : Nat → Nat) (nu : Nat → Int32) (sz ht : Nat → Nat) (m t : Nat) (hP : xp_ok S op nu sz ht m t) : Met l y_Pile_topSize (Cond.code y_Pile_topSize b_Pile_topSize 1 (some .int) :: zz_tbl) rm_Pile_topSize (zz_Pc [.ref (zz_ad (xg_G q) 18)] (xg_G q) S) (va_Qi (fun ans S1 => S = S1 ∧ ans = nI (if t = 0 then 0 else sz (m - 1))) (zz_P (xg_G q)) (zz_A (xg_G q))) 0 0 (zz_A (xg_G q)) := by
  refine zz_met (by decide) (Nat.le_of_ble_eq_true rfl) ?_
  intro p_ e_ s_ m_ bl_ mt_ c_ ls hC hK hZ hl
  have hC : zz_C p_ s_ m_ _ mt_ c_ b_Pile_topSize 1 (some .int) "TreeCoverForge$Pile" := hC
  have hx_ := hC.1
  have hb_ := hC.2.1
  have hl : lv_has ls 1 [(0, .ref (zz_ad (xg_G q) 18))] := hl
  have hP0 := hP
  obtain ⟨hm, ht0, hm40, htm, harr, htr, hts⟩ := hP
  refine lv_aload_n hx_ hb_ d_Pile_topSize_0 rfl (lv_at hl 0 rfl) ?_
  refine zz_get hC hK hZ 18 8 (Nat.le_of_ble_eq_true rfl) (xc_18 q _ _) rfl hin_Pile (by decide) wd_128 rfl rfl d_Pile_topSize_1 ?_
  refine zz_topi (y := nI t) ht0 ?_
  refine zz_ine (tgt := 11) hC d_Pile_topSize_4 (by decide) (by omega) (fun h4 => ?_) (fun h4 => ?_)
  · refine lv_aload_n hx_ hb_ d_Pile_topSize_11 rfl (lv_at hl 0 rfl) ?_
    refine zz_get hC hK hZ 18 2 (Nat.le_of_ble_eq_true rfl) (xc_18 q _ _) rfl hin_Pile (by decide) wd_119 rfl rfl d_Pile_topSize_12 ?_
    refine lv_aload_n hx_ hb_ d_Pile_topSize_15 rfl (lv_at hl 0 rfl) ?_
    refine zz_get hC hK hZ 18 7 (Nat.le_of_ble_eq_true rfl) (xc_18 q _ _) rfl hin_Pile (by decide) wd_125 rfl rfl d_Pile_topSize_16 ?_
    refine zz_topi (y := nI m) hm ?_
    refine lv_iconst (v := nI 1) hx_ hb_ d_Pile_topSize_19 (by decide) ?_
    refine lv_isub hx_ hb_ d_Pile_topSize_20 ?_
    refine zz_topi (y := nI (m - 1)) (pk_sub (by omega)) ?_
    refine zz_iald hC hK hZ 21 0 (m - 1) (Nat.le_of_ble_eq_true rfl) (xc_21 q _ _) rfl rfl (by omega) (by decide) rfl d_Pile_topSize_21 ?_
    refine zz_topi (y := nI (sz (m - 1))) (harr (m - 1) (by omega)).2.2.1 ?_
    exact zz_iret hC hK hZ rfl d_Pile_topSize_22 ⟨rfl, by rw [if_neg h4]⟩
  · refine lv_iconst (v := nI 0) hx_ hb_ d_Pile_topSize_7 (by decide) ?_
    refine lv_goto (tgt := 22) hx_ hb_ d_Pile_topSize_8 (by decide) ?_
    exact zz_iret hC hK hZ rfl d_Pile_topSize_22 ⟨rfl, by rw [if_pos h4]⟩
set_option maxHeartbeats 4000000 in
set_option maxRecDepth 100000 in
theorem c_Pile_topStart (l : Launch) (q : xg_T) (S : zz_S) (op : Nat → Nat) (nu : Nat → Int32) (sz ht : Nat → Nat) (m t : Nat) (hP : xp_ok S op nu sz ht m t) : Met l y_Pile_topStart (Cond.code y_Pile_topStart b_Pile_topStart 1 (some .int) :: zz_tbl) rm_Pile_topStart (zz_Pc [.ref (zz_ad (xg_G q) 18)] (xg_G q) S) (va_Qi (fun ans S1 => S = S1 ∧ ans = nI (m - if t = 0 then 0 else sz (m - 1))) (zz_P (xg_G q)) (zz_A (xg_G q))) 0 0 (zz_A (xg_G q)) := by
  refine zz_met (by decide) (Nat.le_of_ble_eq_true rfl) ?_
  intro p_ e_ s_ m_ bl_ mt_ c_ ls hC hK hZ hl
  have hC : zz_C p_ s_ m_ _ mt_ c_ b_Pile_topStart 1 (some .int) "TreeCoverForge$Pile" := hC
  have hx_ := hC.1
  have hb_ := hC.2.1
  have hl : lv_has ls 1 [(0, .ref (zz_ad (xg_G q) 18))] := hl
  have hP0 := hP
  obtain ⟨hm, ht0, hm40, htm, harr, htr, hts⟩ := hP
  have hle : (if t = 0 then 0 else sz (m - 1)) ≤ m := by
    split
    · omega
    · have := (htr (m - 1) (by omega)).2.2.1
      omega
  refine lv_aload_n hx_ hb_ d_Pile_topStart_0 rfl (lv_at hl 0 rfl) ?_
  refine zz_get hC hK hZ 18 7 (Nat.le_of_ble_eq_true rfl) (xc_18 q _ _) rfl hin_Pile (by decide) wd_125 rfl rfl d_Pile_topStart_1 ?_
  refine zz_topi (y := nI m) hm ?_
  refine lv_aload_n hx_ hb_ d_Pile_topStart_4 rfl (lv_at hl 0 rfl) ?_
  refine zz_ci (zz_rV (As := []) (rest := [.int (nI m)]) hC hK hZ 18 (c_Pile_topSize l q S op nu sz ht m t hP0) k_Pile_topSize (Nat.le_of_ble_eq_true rfl) (xc_18 q _ _) rfl wd_366 ⟨rfl, rfl, by decide, by decide⟩ rfl hl.1 rfl (Nat.le_of_ble_eq_true rfl) d_Pile_topStart_5 ⟨Nat.zero_le _, Nat.zero_le _⟩) hZ (fun r5 S5 H locs hp5 hZ => ?_)
  obtain ⟨rfl, rfl⟩ := hp5
  refine lv_isub hx_ hb_ d_Pile_topStart_8 ?_
  refine zz_topi (y := nI (m - (if t = 0 then 0 else sz (m - 1)))) (pk_sub (by omega)) ?_
  exact zz_iret hC hK hZ rfl d_Pile_topStart_9 ⟨rfl, rfl⟩
set_option maxHeartbeats 4000000 in
set_option maxRecDepth 100000 in
theorem c_Pile_firstKid (l : Launch) (q : xg_T) (S : zz_S) (op : Nat → Nat) (nu : Nat → Int32) (sz ht : Nat → Nat) (m t : Nat) (hP : xp_ok S op nu sz ht m t) (i o : Nat) (hi1 : 1 ≤ i) (him : i ≤ m) (ho : o < 8) (hk2 : zz_kd o = 2 → sz (i - 1) ≤ i - 1) : Met l y_Pile_firstKid (Cond.code y_Pile_firstKid b_Pile_firstKid 3 (some .int) :: zz_tbl) rm_Pile_firstKid (zz_Pc [.ref (zz_ad (xg_G q) 18), .int (nI i), .int (nI o)] (xg_G q) S) (va_Qi (fun ans S1 => S = S1 ∧ ans = nI (xp_fk sz i o)) (zz_P (xg_G q)) (zz_A (xg_G q))) 0 0 (zz_A (xg_G q)) := by
  refine zz_met (by decide) (Nat.le_of_ble_eq_true rfl) ?_
  intro p_ e_ s_ m_ bl_ mt_ c_ ls hC hK hZ hl
  have hC : zz_C p_ s_ m_ _ mt_ c_ b_Pile_firstKid 3 (some .int) "TreeCoverForge$Pile" := hC
  have hx_ := hC.1
  have hb_ := hC.2.1
  have hl : lv_has ls 3 [(0, .ref (zz_ad (xg_G q) 18)), (1, .int (nI i)), (2, .int (nI o))] := hl
  have hP0 := hP
  obtain ⟨hm, ht0, hm40, htm, harr, htr, hts⟩ := hP
  have hkd := tr_kd o
  refine zz_garsN hC hK hZ wd_345 d_Pile_firstKid_0 ?_
  refine lv_iload_n hx_ hb_ d_Pile_firstKid_3 rfl (lv_at hl 2 rfl) ?_
  refine zz_ari hC hK hZ o rfl (by omega) d_Pile_firstKid_4 ?_
  refine lv_iconst (v := nI 2) hx_ hb_ d_Pile_firstKid_5 (by decide) ?_
  refine zz_jne (tgt := 24) hC d_Pile_firstKid_6 (by decide) (by omega) (by omega) (fun h6 => ?_) (fun h6 => ?_)
  · refine lv_iload_n hx_ hb_ d_Pile_firstKid_24 rfl (lv_at hl 1 rfl) ?_
    refine lv_iconst (v := nI 1) hx_ hb_ d_Pile_firstKid_25 (by decide) ?_
    refine lv_isub hx_ hb_ d_Pile_firstKid_26 ?_
    refine zz_topi (y := nI (i - 1)) (pk_sub (by omega)) ?_
    exact zz_iret hC hK hZ rfl d_Pile_firstKid_27 ⟨rfl, by rw [xp_fk, if_neg h6]⟩
  · have hk3 := hk2 h6
    refine lv_iload_n hx_ hb_ d_Pile_firstKid_9 rfl (lv_at hl 1 rfl) ?_
    refine lv_iconst (v := nI 1) hx_ hb_ d_Pile_firstKid_10 (by decide) ?_
    refine lv_isub hx_ hb_ d_Pile_firstKid_11 ?_
    refine zz_topi (y := nI (i - 1)) (pk_sub (by omega)) ?_
    refine lv_aload_n hx_ hb_ d_Pile_firstKid_12 rfl (lv_at hl 0 rfl) ?_
    refine zz_get hC hK hZ 18 2 (Nat.le_of_ble_eq_true rfl) (xc_18 q _ _) rfl hin_Pile (by decide) wd_119 rfl rfl d_Pile_firstKid_13 ?_
    refine lv_iload_n hx_ hb_ d_Pile_firstKid_16 rfl (lv_at hl 1 rfl) ?_
    refine lv_iconst (v := nI 1) hx_ hb_ d_Pile_firstKid_17 (by decide) ?_
    refine lv_isub hx_ hb_ d_Pile_firstKid_18 ?_
    refine zz_topi (y := nI (i - 1)) (pk_sub (by omega)) ?_
    refine zz_iald hC hK hZ 21 0 (i - 1) (Nat.le_of_ble_eq_true rfl) (xc_21 q _ _) rfl rfl (by omega) (by decide) rfl d_Pile_firstKid_19 ?_
    refine zz_topi (y := nI (sz (i - 1))) (harr (i - 1) (by omega)).2.2.1 ?_
    refine lv_isub hx_ hb_ d_Pile_firstKid_20 ?_
    refine zz_topi (y := nI (i - 1 - (sz (i - 1)))) (pk_sub (by omega)) ?_
    refine lv_goto (tgt := 27) hx_ hb_ d_Pile_firstKid_21 (by decide) ?_
    exact zz_iret hC hK hZ rfl d_Pile_firstKid_27 ⟨rfl, by rw [xp_fk, if_pos h6]⟩
set_option maxHeartbeats 4000000 in
set_option maxRecDepth 100000 in
theorem c_Pile_heightOfNew (l : Launch) (q : xg_T) (S : zz_S) (op : Nat → Nat) (nu : Nat → Int32) (sz ht : Nat → Nat) (m t : Nat) (hP : xp_ok S op nu sz ht m t) (o : Nat) (ho : o < 8) (hk1 : 0 < zz_kd o → 1 ≤ m) (hk2 : zz_kd o = 2 → sz (m - 1) + 1 ≤ m) : Met l y_Pile_heightOfNew (Cond.code y_Pile_heightOfNew b_Pile_heightOfNew 2 (some .int) :: zz_tbl) rm_Pile_heightOfNew (zz_Pc [.ref (zz_ad (xg_G q) 18), .int (nI o)] (xg_G q) S) (va_Qi (fun ans S1 => S = S1 ∧ ans = nI (xp_hi sz ht m o)) (zz_P (xg_G q)) (zz_A (xg_G q))) 0 0 (zz_A (xg_G q)) := by
  refine zz_met (by decide) (Nat.le_of_ble_eq_true rfl) ?_
  intro p_ e_ s_ m_ bl_ mt_ c_ ls hC hK hZ hl
  have hC : zz_C p_ s_ m_ _ mt_ c_ b_Pile_heightOfNew 2 (some .int) "TreeCoverForge$Pile" := hC
  have hx_ := hC.1
  have hb_ := hC.2.1
  have hl : lv_has ls 2 [(0, .ref (zz_ad (xg_G q) 18)), (1, .int (nI o))] := hl
  have hP0 := hP
  obtain ⟨hm, ht0, hm40, htm, harr, htr, hts⟩ := hP
  have hkd := tr_kd o
  have hfk : 0 < zz_kd o → xp_fk sz m o < m := fun h => by
    have := hk1 h
    unfold xp_fk
    split <;> omega
  refine zz_garsN hC hK hZ wd_345 d_Pile_heightOfNew_0 ?_
  refine lv_iload_n hx_ hb_ d_Pile_heightOfNew_3 rfl (lv_at hl 1 rfl) ?_
  refine zz_ari hC hK hZ o rfl (by omega) d_Pile_heightOfNew_4 ?_
  refine zz_ine (tgt := 10) hC d_Pile_heightOfNew_5 (by decide) (by omega) (fun h5 => ?_) (fun h5 => ?_)
  · have hk3 := hk1 (by omega)
    have hk4 := hfk (by omega)
    have hh1 := harr (xp_fk sz m o) hk4
    have hh2 := harr (m - 1) (by omega)
    refine lv_iconst (v := nI 1) hx_ hb_ d_Pile_heightOfNew_10 (by decide) ?_
    refine lv_aload_n hx_ hb_ d_Pile_heightOfNew_11 rfl (lv_at hl 0 rfl) ?_
    refine zz_get hC hK hZ 18 3 (Nat.le_of_ble_eq_true rfl) (xc_18 q _ _) rfl hin_Pile (by decide) wd_120 rfl rfl d_Pile_heightOfNew_12 ?_
    refine lv_aload_n hx_ hb_ d_Pile_heightOfNew_15 rfl (lv_at hl 0 rfl) ?_
    refine lv_aload_n hx_ hb_ d_Pile_heightOfNew_16 rfl (lv_at hl 0 rfl) ?_
    refine zz_get hC hK hZ 18 7 (Nat.le_of_ble_eq_true rfl) (xc_18 q _ _) rfl hin_Pile (by decide) wd_125 rfl rfl d_Pile_heightOfNew_17 ?_
    refine zz_topi (y := nI m) hm ?_
    refine lv_iload_n hx_ hb_ d_Pile_heightOfNew_20 rfl (lv_at hl 1 rfl) ?_
    refine zz_ci (zz_rV (As := [.int (nI m), .int (nI o)]) (rest := [.ref (zz_ad (xg_G q) 22), .int (nI 1)]) hC hK hZ 18 (c_Pile_firstKid l q S op nu sz ht m t hP0 m o (by omega) (Nat.le_refl m) ho (fun h => by have := hk2 h; omega)) k_Pile_firstKid (Nat.le_of_ble_eq_true rfl) (xc_18 q _ _) rfl wd_346 ⟨rfl, rfl, by decide, by decide⟩ rfl hl.1 rfl (Nat.le_of_ble_eq_true rfl) d_Pile_heightOfNew_21 ⟨Nat.zero_le _, Nat.zero_le _⟩) hZ (fun r21 S21 H locs hp21 hZ => ?_)
    obtain ⟨rfl, rfl⟩ := hp21
    refine zz_iald hC hK hZ 22 0 (xp_fk sz m o) (Nat.le_of_ble_eq_true rfl) (xc_22 q _ _) rfl rfl (by omega) (by decide) rfl d_Pile_heightOfNew_24 ?_
    refine zz_topi (y := nI (ht (xp_fk sz m o))) hh1.2.2.2.1 ?_
    refine lv_aload_n hx_ hb_ d_Pile_heightOfNew_25 rfl (lv_at hl 0 rfl) ?_
    refine zz_get hC hK hZ 18 3 (Nat.le_of_ble_eq_true rfl) (xc_18 q _ _) rfl hin_Pile (by decide) wd_120 rfl rfl d_Pile_heightOfNew_26 ?_
    refine lv_aload_n hx_ hb_ d_Pile_heightOfNew_29 rfl (lv_at hl 0 rfl) ?_
    refine zz_get hC hK hZ 18 7 (Nat.le_of_ble_eq_true rfl) (xc_18 q _ _) rfl hin_Pile (by decide) wd_125 rfl rfl d_Pile_heightOfNew_30 ?_
    refine zz_topi (y := nI m) hm ?_
    refine lv_iconst (v := nI 1) hx_ hb_ d_Pile_heightOfNew_33 (by decide) ?_
    refine lv_isub hx_ hb_ d_Pile_heightOfNew_34 ?_
    refine zz_topi (y := nI (m - 1)) (pk_sub (by omega)) ?_
    refine zz_iald hC hK hZ 22 0 (m - 1) (Nat.le_of_ble_eq_true rfl) (xc_22 q _ _) rfl rfl (by omega) (by decide) rfl d_Pile_heightOfNew_35 ?_
    refine zz_topi (y := nI (ht (m - 1))) hh2.2.2.2.1 ?_
    refine va_mmax hx_ hb_ (hC.2.2.1.trans hl.1.symm) hC.2.2.2.1 (hC.2.2.2.2.1 _ wd_350) (hC.2.2.2.2.1 _ w_mmax_st) (hC.2.2.2.2.1 _ w_math_ini) (hC.2.2.2.2.1 _ w_mmax_code) (by decide) (Nat.le_of_ble_eq_true rfl) (Nat.zero_le _) (Nat.zero_le _) d_Pile_heightOfNew_36 ?_
    refine zz_topi (y := nI (max (ht (xp_fk sz m o)) (ht (m - 1)))) (zz_max (by omega) (by omega)) ?_
    refine lv_iadd hx_ hb_ d_Pile_heightOfNew_39 ?_
    refine zz_topi (y := nI (1 + (max (ht (xp_fk sz m o)) (ht (m - 1))))) (nI_add _ _) ?_
    exact zz_iret hC hK hZ rfl d_Pile_heightOfNew_40 ⟨rfl, by rw [xp_hi, if_neg h5]⟩
  · refine lv_iconst (v := nI 1) hx_ hb_ d_Pile_heightOfNew_8 (by decide) ?_
    exact zz_iret hC hK hZ rfl d_Pile_heightOfNew_9 ⟨rfl, by rw [xp_hi, if_pos h5]⟩
set_option maxHeartbeats 4000000 in
set_option maxRecDepth 100000 in
theorem c_Pile_add (l : Launch) (q : xg_T) (S : zz_S) (op : Nat → Nat) (nu : Nat → Int32) (sz ht : Nat → Nat) (m t : Nat) (hP : xp_ok S op nu sz ht m t) (o : Nat) (ho : o < 8) (hk1 : 0 < zz_kd o → 1 ≤ m) (hk2 : zz_kd o = 2 → sz (m - 1) + 1 ≤ m) (v : Int32) (hm2 : m < 40) (hkt : zz_kd o ≤ t) : Met l y_Pile_add (Cond.code y_Pile_add b_Pile_add 5 none :: zz_tbl) rm_Pile_add (zz_Pc [.ref (zz_ad (xg_G q) 18), .int (nI o), .int v] (xg_G q) S) (va_Qv (fun S1 => S1 = xp_add S m o v (xp_sz sz m o) (xp_hi sz ht m o) (t + 1 - zz_kd o)) (zz_P (xg_G q)) (zz_A (xg_G q))) 0 0 (zz_A (xg_G q)) := by
  refine zz_met (by decide) (Nat.le_of_ble_eq_true rfl) ?_
  intro p_ e_ s_ m_ bl_ mt_ c_ ls hC hK hZ hl
  have hC : zz_C p_ s_ m_ _ mt_ c_ b_Pile_add 5 none "TreeCoverForge$Pile" := hC
  have hx_ := hC.1
  have hb_ := hC.2.1
  have hl : lv_has ls 5 [(0, .ref (zz_ad (xg_G q) 18)), (1, .int (nI o)), (2, .int v)] := hl
  have hP0 := hP
  obtain ⟨hm, ht0, hm40, htm, harr, htr, hts⟩ := hP
  have hkd := tr_kd o
  have hfk : 0 < zz_kd o → xp_fk sz m o < m := fun h => by
    have := hk1 h
    unfold xp_fk
    split <;> omega
  have J42 : ∀ (n3 : Nat) (H : Heap) (locs : List Loc) (ls : Array Slot) (hn3 : n3 = xp_sz sz m o) (hZ : zz_Z (xg_G q) S s_.heap H locs) (hl : lv_has ls 5 [(0, .ref (zz_ad (xg_G q) 18)), (1, .int (nI o)), (2, .int v), (3, .int (nI n3))]), W p_ l e_ rm_Pile_add s_ m_ ([.ref (zz_ad (xg_G q) 18), .int (nI o), .int v] : List Value).toArray bl_ mt_ c_ H locs 0 0 (MQ bl_ (va_Qv (fun S1 => S1 = xp_add S m o v (xp_sz sz m o) (xp_hi sz ht m o) (t + 1 - zz_kd o)) (zz_P (xg_G q)) (zz_A (xg_G q))) ([.ref (zz_ad (xg_G q) 18), .int (nI o), .int v] : List Value).toArray s_ 0 0 (zz_A (xg_G q))) (F0 m_ 42 ls []) := by
    intro n3 H locs ls hn3 hZ hl
    refine lv_aload_n hx_ hb_ d_Pile_add_42 rfl (lv_at hl 0 rfl) ?_
    refine zz_get hC hK hZ 18 3 (Nat.le_of_ble_eq_true rfl) (xc_18 q _ _) rfl hin_Pile (by decide) wd_120 rfl rfl d_Pile_add_43 ?_
    refine lv_aload_n hx_ hb_ d_Pile_add_46 rfl (lv_at hl 0 rfl) ?_
    refine zz_get hC hK hZ 18 7 (Nat.le_of_ble_eq_true rfl) (xc_18 q _ _) rfl hin_Pile (by decide) wd_125 rfl rfl d_Pile_add_47 ?_
    refine zz_topi (y := nI m) hm ?_
    refine lv_aload_n hx_ hb_ d_Pile_add_50 rfl (lv_at hl 0 rfl) ?_
    refine lv_iload_n hx_ hb_ d_Pile_add_51 rfl (lv_at hl 1 rfl) ?_
    refine zz_ci (zz_rV (As := [.int (nI o)]) (rest := [.int (nI m), .ref (zz_ad (xg_G q) 22)]) hC hK hZ 18 (c_Pile_heightOfNew l q S op nu sz ht m t hP0 o ho hk1 hk2) k_Pile_heightOfNew (Nat.le_of_ble_eq_true rfl) (xc_18 q _ _) rfl wd_357 ⟨rfl, rfl, by decide, by decide⟩ rfl hl.1 rfl (Nat.le_of_ble_eq_true rfl) d_Pile_add_52 ⟨Nat.zero_le _, Nat.zero_le _⟩) hZ (fun r52 S52 H locs hp52 hZ => ?_)
    obtain ⟨rfl, rfl⟩ := hp52
    refine zz_iast hC hK hZ 22 0 m (Nat.le_of_ble_eq_true rfl) (fun _ => xc_22 q _ _) rfl rfl (by omega) (by decide) d_Pile_add_55 (fun H locs hZ => ?_)
    refine lv_aload_n hx_ hb_ d_Pile_add_56 rfl (lv_at hl 0 rfl) ?_
    refine zz_get hC hK hZ 18 2 (Nat.le_of_ble_eq_true rfl) (xc_18 q _ _) rfl hin_Pile (by decide) wd_119 rfl rfl d_Pile_add_57 ?_
    refine lv_aload_n hx_ hb_ d_Pile_add_60 rfl (lv_at hl 0 rfl) ?_
    refine zz_get hC hK hZ 18 7 (Nat.le_of_ble_eq_true rfl) (xc_18 q _ _) rfl hin_Pile (by decide) wd_125 rfl rfl d_Pile_add_61 ?_
    refine zz_topi (y := nI m) hm ?_
    refine lv_iload_n hx_ hb_ d_Pile_add_64 rfl (lv_at hl 3 rfl) ?_
    refine zz_iast hC hK hZ 21 0 m (Nat.le_of_ble_eq_true rfl) (fun _ => xc_21 q _ _) rfl rfl (by omega) (by decide) d_Pile_add_65 (fun H locs hZ => ?_)
    refine lv_aload_n hx_ hb_ d_Pile_add_66 rfl (lv_at hl 0 rfl) ?_
    refine zz_get hC hK hZ 18 0 (Nat.le_of_ble_eq_true rfl) (xc_18 q _ _) rfl hin_Pile (by decide) wd_115 rfl rfl d_Pile_add_67 ?_
    refine lv_aload_n hx_ hb_ d_Pile_add_70 rfl (lv_at hl 0 rfl) ?_
    refine zz_get hC hK hZ 18 7 (Nat.le_of_ble_eq_true rfl) (xc_18 q _ _) rfl hin_Pile (by decide) wd_125 rfl rfl d_Pile_add_71 ?_
    refine zz_topi (y := nI m) hm ?_
    refine lv_iload_n hx_ hb_ d_Pile_add_74 rfl (lv_at hl 1 rfl) ?_
    refine zz_iast hC hK hZ 19 0 m (Nat.le_of_ble_eq_true rfl) (fun _ => xc_19 q _ _) rfl rfl (by omega) (by decide) d_Pile_add_75 (fun H locs hZ => ?_)
    refine lv_aload_n hx_ hb_ d_Pile_add_76 rfl (lv_at hl 0 rfl) ?_
    refine zz_get hC hK hZ 18 1 (Nat.le_of_ble_eq_true rfl) (xc_18 q _ _) rfl hin_Pile (by decide) wd_117 rfl rfl d_Pile_add_77 ?_
    refine lv_aload_n hx_ hb_ d_Pile_add_80 rfl (lv_at hl 0 rfl) ?_
    refine zz_get hC hK hZ 18 7 (Nat.le_of_ble_eq_true rfl) (xc_18 q _ _) rfl hin_Pile (by decide) wd_125 rfl rfl d_Pile_add_81 ?_
    refine zz_topi (y := nI m) hm ?_
    refine lv_iload_n hx_ hb_ d_Pile_add_84 rfl (lv_at hl 2 rfl) ?_
    refine zz_iast hC hK hZ 20 0 m (Nat.le_of_ble_eq_true rfl) (fun _ => xc_20 q _ _) rfl rfl (by omega) (by decide) d_Pile_add_85 (fun H locs hZ => ?_)
    refine lv_aload_n hx_ hb_ d_Pile_add_86 rfl (lv_at hl 0 rfl) ?_
    refine lv_dup hx_ hb_ d_Pile_add_87 rfl ?_
    refine zz_get hC hK hZ 18 7 (Nat.le_of_ble_eq_true rfl) (xc_18 q _ _) rfl hin_Pile (by decide) wd_125 rfl rfl d_Pile_add_88 ?_
    refine zz_topi (y := nI m) hm ?_
    refine lv_iconst (v := nI 1) hx_ hb_ d_Pile_add_91 (by decide) ?_
    refine lv_iadd hx_ hb_ d_Pile_add_92 ?_
    refine zz_topi (y := nI (m + 1)) (nI_add _ _) ?_
    refine zz_put hC hK hZ 18 7 (Nat.le_of_ble_eq_true rfl) (xc_18 q _ _) rfl hin_Pile t_Pile t_Pile_ok n_Pile (by decide) wd_125 rfl rfl rfl (Nat.le_of_ble_eq_true rfl) rfl d_Pile_add_93 (fun H locs hZ => ?_)
    refine lv_aload_n hx_ hb_ d_Pile_add_96 rfl (lv_at hl 0 rfl) ?_
    refine lv_dup hx_ hb_ d_Pile_add_97 rfl ?_
    refine zz_get hC hK hZ 18 8 (Nat.le_of_ble_eq_true rfl) (xc_18 q _ _) rfl hin_Pile (by decide) wd_128 rfl rfl d_Pile_add_98 ?_
    refine zz_topi (y := nI t) ht0 ?_
    refine lv_iconst (v := nI 1) hx_ hb_ d_Pile_add_101 (by decide) ?_
    refine zz_garsN hC hK hZ wd_345 d_Pile_add_102 ?_
    refine lv_iload_n hx_ hb_ d_Pile_add_105 rfl (lv_at hl 1 rfl) ?_
    refine zz_ari hC hK hZ o rfl (by omega) d_Pile_add_106 ?_
    refine lv_isub hx_ hb_ d_Pile_add_107 ?_
    refine zz_topi (y := nI 1 - nI (zz_kd o)) rfl ?_
    refine lv_iadd hx_ hb_ d_Pile_add_108 ?_
    refine zz_topi (y := nI (t + 1 - zz_kd o)) (zz_asub (by omega)) ?_
    refine zz_put hC hK hZ 18 8 (Nat.le_of_ble_eq_true rfl) (xc_18 q _ _) rfl hin_Pile t_Pile t_Pile_ok n_Pile (by decide) wd_128 rfl rfl rfl (Nat.le_of_ble_eq_true rfl) rfl d_Pile_add_109 (fun H locs hZ => ?_)
    exact zz_vret hC hK hZ rfl d_Pile_add_112 (by rw [hn3]; rfl)
  refine lv_iconst (v := nI 1) hx_ hb_ d_Pile_add_0 (by decide) ?_
  refine lv_istore_n (i := 3) (lv' := [(3, .int (nI 1)), (0, .ref (zz_ad (xg_G q) 18)), (1, .int (nI o)), (2, .int v)]) hx_ hb_ d_Pile_add_1 rfl hl (by decide) rfl (fun ls hl => ?_)
  refine zz_garsN hC hK hZ wd_345 d_Pile_add_2 ?_
  refine lv_iload_n hx_ hb_ d_Pile_add_5 rfl (lv_at hl 2 rfl) ?_
  refine zz_ari hC hK hZ o rfl (by omega) d_Pile_add_6 ?_
  refine lv_iconst (v := nI 1) hx_ hb_ d_Pile_add_7 (by decide) ?_
  refine zz_jlt (tgt := 42) hC d_Pile_add_8 (by decide) (by omega) (by omega) (fun h8 => ?_) (fun h8 => ?_)
  · exact J42 1  _ _ _ (by rw [xp_sz, if_pos (by omega)]) hZ (lv_sub hl [1, 2, 3, 0] rfl)
  · have hk3 := hk1 (by omega)
    have hk4 := hfk (by omega)
    have hh1 := harr (xp_fk sz m o) hk4
    refine lv_aload_n hx_ hb_ d_Pile_add_11 rfl (lv_at hl 1 rfl) ?_
    refine lv_aload_n hx_ hb_ d_Pile_add_12 rfl (lv_at hl 1 rfl) ?_
    refine zz_get hC hK hZ 18 7 (Nat.le_of_ble_eq_true rfl) (xc_18 q _ _) rfl hin_Pile (by decide) wd_125 rfl rfl d_Pile_add_13 ?_
    refine zz_topi (y := nI m) hm ?_
    refine lv_iload_n hx_ hb_ d_Pile_add_16 rfl (lv_at hl 2 rfl) ?_
    refine zz_ci (zz_rV (As := [.int (nI m), .int (nI o)]) (rest := []) hC hK hZ 18 (c_Pile_firstKid l q S op nu sz ht m t hP0 m o (by omega) (Nat.le_refl m) ho (fun h => by have := hk2 h; omega)) k_Pile_firstKid (Nat.le_of_ble_eq_true rfl) (xc_18 q _ _) rfl wd_346 ⟨rfl, rfl, by decide, by decide⟩ rfl hl.1 rfl (Nat.le_of_ble_eq_true rfl) d_Pile_add_17 ⟨Nat.zero_le _, Nat.zero_le _⟩) hZ (fun r17 S17 H locs hp17 hZ => ?_)
    obtain ⟨rfl, rfl⟩ := hp17
    refine lv_istore (i := 4) (lv' := [(4, .int (nI (xp_fk sz m o))), (3, .int (nI 1)), (0, .ref (zz_ad (xg_G q) 18)), (1, .int (nI o)), (2, .int v)]) hx_ hb_ d_Pile_add_20 hl (by decide) rfl (fun ls hl => ?_)
    refine lv_iload_n hx_ hb_ d_Pile_add_22 rfl (lv_at hl 1 rfl) ?_
    refine lv_aload_n hx_ hb_ d_Pile_add_23 rfl (lv_at hl 2 rfl) ?_
    refine zz_get hC hK hZ 18 7 (Nat.le_of_ble_eq_true rfl) (xc_18 q _ _) rfl hin_Pile (by decide) wd_125 rfl rfl d_Pile_add_24 ?_
    refine zz_topi (y := nI m) hm ?_
    refine lv_iload hx_ hb_ d_Pile_add_27 (lv_at hl 0 rfl) ?_
    refine lv_isub hx_ hb_ d_Pile_add_29 ?_
    refine zz_topi (y := nI (m - (xp_fk sz m o))) (pk_sub (by omega)) ?_
    refine lv_iconst (v := nI 1) hx_ hb_ d_Pile_add_30 (by decide) ?_
    refine lv_isub hx_ hb_ d_Pile_add_31 ?_
    refine zz_topi (y := nI (m - (xp_fk sz m o) - 1)) (pk_sub (by omega)) ?_
    refine lv_aload_n hx_ hb_ d_Pile_add_32 rfl (lv_at hl 2 rfl) ?_
    refine zz_get hC hK hZ 18 2 (Nat.le_of_ble_eq_true rfl) (xc_18 q _ _) rfl hin_Pile (by decide) wd_119 rfl rfl d_Pile_add_33 ?_
    refine lv_iload hx_ hb_ d_Pile_add_36 (lv_at hl 0 rfl) ?_
    refine zz_iald hC hK hZ 21 0 (xp_fk sz m o) (Nat.le_of_ble_eq_true rfl) (xc_21 q _ _) rfl rfl (by omega) (by decide) rfl d_Pile_add_38 ?_
    refine zz_topi (y := nI (sz (xp_fk sz m o))) hh1.2.2.1 ?_
    refine lv_iadd hx_ hb_ d_Pile_add_39 ?_
    refine zz_topi (y := nI ((m - (xp_fk sz m o) - 1) + (sz (xp_fk sz m o)))) (nI_add _ _) ?_
    refine lv_iadd hx_ hb_ d_Pile_add_40 ?_
    refine zz_topi (y := nI (1 + ((m - (xp_fk sz m o) - 1) + (sz (xp_fk sz m o))))) (nI_add _ _) ?_
    refine lv_istore_n (i := 3) (lv' := [(3, .int (nI (1 + ((m - (xp_fk sz m o) - 1) + (sz (xp_fk sz m o)))))), (4, .int (nI (xp_fk sz m o))), (0, .ref (zz_ad (xg_G q) 18)), (1, .int (nI o)), (2, .int v)]) hx_ hb_ d_Pile_add_41 rfl hl (by decide) rfl (fun ls hl => ?_)
    exact J42 (1 + ((m - (xp_fk sz m o) - 1) + (sz (xp_fk sz m o))))  _ _ _ (by rw [xp_sz, if_neg (by omega)]) hZ (lv_sub hl [2, 3, 4, 0] rfl)
set_option maxHeartbeats 4000000 in
set_option maxRecDepth 100000 in
theorem c_Pile_removeTop (l : Launch) (q : xg_T) (S : zz_S) (op : Nat → Nat) (nu : Nat → Int32) (sz ht : Nat → Nat) (m t : Nat) (hP : xp_ok S op nu sz ht m t) (n : Nat) (hn : S.1 18 9 = nI n) (hnm : n ≤ m) (ht1 : 1 ≤ t) : Met l y_Pile_removeTop (Cond.code y_Pile_removeTop b_Pile_removeTop 1 none :: zz_tbl) rm_Pile_removeTop (zz_Pc [.ref (zz_ad (xg_G q) 18)] (xg_G q) S) (va_Qv (fun S1 => S1 = zz_u (zz_u (zz_u S 18 7 (nI (m - sz (m - 1)))) 18 8 (nI (t - 1))) 18 9 (nI (min n (m - sz (m - 1))))) (zz_P (xg_G q)) (zz_A (xg_G q))) 0 0 (zz_A (xg_G q)) := by
  refine zz_met (by decide) (Nat.le_of_ble_eq_true rfl) ?_
  intro p_ e_ s_ m_ bl_ mt_ c_ ls hC hK hZ hl
  have hC : zz_C p_ s_ m_ _ mt_ c_ b_Pile_removeTop 1 none "TreeCoverForge$Pile" := hC
  have hx_ := hC.1
  have hb_ := hC.2.1
  have hl : lv_has ls 1 [(0, .ref (zz_ad (xg_G q) 18))] := hl
  have hP0 := hP
  obtain ⟨hm, ht0, hm40, htm, harr, htr, hts⟩ := hP
  have hle := (htr (m - 1) (by omega)).2.2.1
  have e0 : (if t = 0 then 0 else sz (m - 1)) = sz (m - 1) := if_neg (by omega)
  refine lv_aload_n hx_ hb_ d_Pile_removeTop_0 rfl (lv_at hl 0 rfl) ?_
  refine lv_dup hx_ hb_ d_Pile_removeTop_1 rfl ?_
  refine zz_get hC hK hZ 18 7 (Nat.le_of_ble_eq_true rfl) (xc_18 q _ _) rfl hin_Pile (by decide) wd_125 rfl rfl d_Pile_removeTop_2 ?_
  refine zz_topi (y := nI m) hm ?_
  refine lv_aload_n hx_ hb_ d_Pile_removeTop_5 rfl (lv_at hl 0 rfl) ?_
  refine zz_ci (zz_rV (As := []) (rest := [.int (nI m), .ref (zz_ad (xg_G q) 18)]) hC hK hZ 18 (c_Pile_topSize l q S op nu sz ht m t hP0) k_Pile_topSize (Nat.le_of_ble_eq_true rfl) (xc_18 q _ _) rfl wd_366 ⟨rfl, rfl, by decide, by decide⟩ rfl hl.1 rfl (Nat.le_of_ble_eq_true rfl) d_Pile_removeTop_6 ⟨Nat.zero_le _, Nat.zero_le _⟩) hZ (fun r6 S6 H locs hp6 hZ => ?_)
  obtain ⟨rfl, rfl⟩ := hp6
  rw [e0]
  refine lv_isub hx_ hb_ d_Pile_removeTop_9 ?_
  refine zz_topi (y := nI (m - (sz (m - 1)))) (pk_sub (by omega)) ?_
  refine zz_put hC hK hZ 18 7 (Nat.le_of_ble_eq_true rfl) (xc_18 q _ _) rfl hin_Pile t_Pile t_Pile_ok n_Pile (by decide) wd_125 rfl rfl rfl (Nat.le_of_ble_eq_true rfl) rfl d_Pile_removeTop_10 (fun H locs hZ => ?_)
  refine lv_aload_n hx_ hb_ d_Pile_removeTop_13 rfl (lv_at hl 0 rfl) ?_
  refine lv_dup hx_ hb_ d_Pile_removeTop_14 rfl ?_
  refine zz_get hC hK hZ 18 8 (Nat.le_of_ble_eq_true rfl) (xc_18 q _ _) rfl hin_Pile (by decide) wd_128 rfl rfl d_Pile_removeTop_15 ?_
  refine zz_topi (y := nI t) ht0 ?_
  refine lv_iconst (v := nI 1) hx_ hb_ d_Pile_removeTop_18 (by decide) ?_
  refine lv_isub hx_ hb_ d_Pile_removeTop_19 ?_
  refine zz_topi (y := nI (t - 1)) (pk_sub (by omega)) ?_
  refine zz_put hC hK hZ 18 8 (Nat.le_of_ble_eq_true rfl) (xc_18 q _ _) rfl hin_Pile t_Pile t_Pile_ok n_Pile (by decide) wd_128 rfl rfl rfl (Nat.le_of_ble_eq_true rfl) rfl d_Pile_removeTop_20 (fun H locs hZ => ?_)
  refine lv_aload_n hx_ hb_ d_Pile_removeTop_23 rfl (lv_at hl 0 rfl) ?_
  refine lv_aload_n hx_ hb_ d_Pile_removeTop_24 rfl (lv_at hl 0 rfl) ?_
  refine zz_get hC hK hZ 18 9 (Nat.le_of_ble_eq_true rfl) (xc_18 q _ _) rfl hin_Pile (by decide) wd_130 rfl rfl d_Pile_removeTop_25 ?_
  refine zz_topi (y := nI n) hn ?_
  refine lv_aload_n hx_ hb_ d_Pile_removeTop_28 rfl (lv_at hl 0 rfl) ?_
  refine zz_get hC hK hZ 18 7 (Nat.le_of_ble_eq_true rfl) (xc_18 q _ _) rfl hin_Pile (by decide) wd_125 rfl rfl d_Pile_removeTop_29 ?_
  refine zz_topi (y := nI (m - sz (m - 1))) rfl ?_
  refine va_mmin hx_ hb_ (hC.2.2.1.trans hl.1.symm) hC.2.2.2.1 (hC.2.2.2.2.1 _ wd_370) (hC.2.2.2.2.1 _ w_mmin_st) (hC.2.2.2.2.1 _ w_math_ini) (hC.2.2.2.2.1 _ w_mmin_code) (by decide) (Nat.le_of_ble_eq_true rfl) (Nat.zero_le _) (Nat.zero_le _) d_Pile_removeTop_32 ?_
  refine zz_topi (y := nI (min n (m - sz (m - 1)))) (zz_min (by omega) (by omega)) ?_
  refine zz_put hC hK hZ 18 9 (Nat.le_of_ble_eq_true rfl) (xc_18 q _ _) rfl hin_Pile t_Pile t_Pile_ok n_Pile (by decide) wd_130 rfl rfl rfl (Nat.le_of_ble_eq_true rfl) rfl d_Pile_removeTop_35 (fun H locs hZ => ?_)
  exact zz_vret hC hK hZ rfl d_Pile_removeTop_38 rfl
end
section
/-! Labels: costs as the class keeps them (-1: no cover), choices (-3: none). -/
def vw_c (x : Nat) : Int64 := if x < mx_far then lN x else -1
def vw_p (x : Nat) : Int32 := if x < 24 then nI x else -3
theorem vw_far : mx_far = 1125899906842624 := rfl
theorem vw_c_in {x : Nat} (h : x < mx_far) : vw_c x = lN x := if_pos h
theorem vw_c_out {x : Nat} (h : ¬ x < mx_far) : vw_c x = -1 := if_neg h
theorem vw_ne {x : Nat} (h : x < mx_far) : lN x ≠ -1 := fun e => by
  have hf := vw_far
  have h1 : (lN x).toInt = (x : Int) := pk_lT (by omega)
  rw [e] at h1
  have h2 : (-1 : Int64).toInt = -1 := rfl
  omega
theorem vw_c_m1 {x : Nat} (h : vw_c x = -1) : ¬ x < mx_far := fun hx => vw_ne hx ((vw_c_in hx).symm.trans h)
theorem vw_c_n1 {x : Nat} (h : ¬ vw_c x = -1) : x < mx_far := by
  by_cases hx : x < mx_far
  · exact hx
  · exact absurd (vw_c_out hx) h
theorem vw_c_inj {x y : Nat} (hx : x ≤ mx_far) (hy : y ≤ mx_far) (h : vw_c x = vw_c y) : x = y := by
  have hf := vw_far
  by_cases h1 : x < mx_far
  · by_cases h2 : y < mx_far
    · rw [vw_c_in h1, vw_c_in h2] at h
      exact (pk_lEQ (by omega) (by omega)).mp h
    · rw [vw_c_in h1, vw_c_out h2] at h
      exact absurd h (vw_ne h1)
  · by_cases h2 : y < mx_far
    · rw [vw_c_out h1, vw_c_in h2] at h
      exact absurd h.symm (vw_ne h2)
    · omega
theorem vw_p_in {x : Nat} (h : x < 24) : vw_p x = nI x := if_pos h
theorem vw_p_inj {x y : Nat} (hx : x ≤ 24) (hy : y ≤ 24) (h : vw_p x = vw_p y) : x = y := by
  have hn : ∀ z, z < 24 → nI z ≠ -3 := fun z hz e => by
    have h1 : (nI z).toInt = (z : Int) := nI_toInt (by omega)
    rw [e] at h1
    have h2 : (-3 : Int32).toInt = -3 := rfl
    omega
  by_cases h1 : x < 24
  · by_cases h2 : y < 24
    · rw [vw_p_in h1, vw_p_in h2] at h
      exact (nI_eq (by omega) (by omega)).mp h
    · rw [vw_p_in h1, vw_p, if_neg h2] at h
      exact absurd h (hn x h1)
  · by_cases h2 : y < 24
    · rw [vw_p, if_neg h1, vw_p_in h2] at h
      exact absurd h.symm (hn y h2)
    · omega
def xl_ok (S : zz_S) (j : Nat) (g q : Nat → Nat) : Prop := ∀ k, k < 4 → S.2 (42 + 3 * j + 1) k = vw_c (g k) ∧ S.1 (42 + 3 * j + 2) k = vw_p (q k)
/-- the cells of label j's rows -/
abbrev xl_X (j : Nat) : Nat → Prop := fun c => c = 42 + 3 * j + 1 ∨ c = 42 + 3 * j + 2
def xl_set (S : zz_S) (j k : Nat) (v : Int64) (r : Int32) : zz_S := zz_u (zz_v S (42 + 3 * j + 1) k v) (42 + 3 * j + 2) k r
theorem xl_set1 {S : zz_S} {j k : Nat} {v : Int64} {r : Int32} : (xl_set S j k v r).2 (42 + 3 * j + 1) = vp_updL (S.2 (42 + 3 * j + 1)) k v := zz_v2s S _ k v
theorem xl_set2 {S : zz_S} {j k : Nat} {v : Int64} {r : Int32} : (xl_set S j k v r).1 (42 + 3 * j + 2) = upd (S.1 (42 + 3 * j + 2)) k r := zz_u1s _ _ k r
theorem xl_set_off {S : zz_S} {j k : Nat} {v : Int64} {r : Int32} : zz_off (xl_X j) S (xl_set S j k v r) := fun c hc => by
  have h1 : c ≠ 42 + 3 * j + 1 := fun h => hc (Or.inl h)
  have h2 : c ≠ 42 + 3 * j + 2 := fun h => hc (Or.inr h)
  exact ⟨zz_u1 _ _ k r c h2, zz_v2 S _ k v c h1⟩
theorem zz_off_rf {X : Nat → Prop} {S : zz_S} : zz_off X S S := fun _ _ => ⟨rfl, rfl⟩
theorem zz_off_tr {X : Nat → Prop} {S S1 S2 : zz_S} (h : zz_off X S S1) (h2 : zz_off X S1 S2) : zz_off X S S2 := fun c hc => ⟨(h2 c hc).1.trans (h c hc).1, (h2 c hc).2.trans (h c hc).2⟩
theorem zz_off_mono {X Y : Nat → Prop} {S S1 : zz_S} (h : zz_off X S S1) (hXY : ∀ c, X c → Y c) : zz_off Y S S1 := fun c hc => h c (fun x => hc (hXY c x))
theorem xl_ok_set {S : zz_S} {j k v r : Nat} {g q : Nat → Nat} (h : xl_ok S j g q) (hv : v < mx_far) (hr : r < 24) : xl_ok (xl_set S j k (lN v) (nI r)) j (va_up g k v) (va_up q k r) := fun i hi => by
  rw [xl_set1, xl_set2]
  by_cases e : i = k
  · rw [e, pk_uLs, pk_us, mp_up_s, mp_up_s, vw_c_in hv, vw_p_in hr]
    exact ⟨rfl, rfl⟩
  · rw [pk_uLn e, pk_un e, mp_up_n e, mp_up_n e]
    exact h i hi
/-- the least of the first k -/
def xl_lo (g : Nat → Nat) : Nat → Nat
  | 0 => mx_far
  | k + 1 => min (xl_lo g k) (g k)
theorem xl_lo4 {g : Nat → Nat} (h : ∀ k, k < 4 → g k ≤ mx_far) : xl_lo g 4 = ns_low g := by
  have h0 := h 0 (by omega)
  show min (min (min (min mx_far (g 0)) (g 1)) (g 2)) (g 3) = min (min (g 0) (g 1)) (min (g 2) (g 3))
  omega
theorem xl_lo_le (g : Nat → Nat) : ∀ k, xl_lo g k ≤ mx_far
  | 0 => Nat.le_refl _
  | k + 1 => by
    have := xl_lo_le g k
    show min (xl_lo g k) (g k) ≤ mx_far
    omega
end
section
/-! Labels: questions and offers. Laid by wip/whole/prog/p3.py. -/
set_option maxHeartbeats 4000000 in
set_option maxRecDepth 100000 in
theorem c_fill8 (l : Launch) (q : xg_T) (S : zz_S)  (v : Int32) : Met l y_Arrays_fillI (Cond.code y_Arrays_fillI b_Arrays_fillI 4 none :: zz_tbl) rm_Arrays_fillI (zz_Pc [.ref (zz_ad (xg_G q) 8), .int v] (xg_G q) S) (va_Qv (fun S1 => zz_off (fun c => c = 8) S S1 ∧ ∀ k, k < 9 → S1.1 8 k = v) (zz_P (xg_G q)) (zz_A (xg_G q))) 0 0 (zz_A (xg_G q)) := by
  refine zz_met (by decide) (Nat.le_of_ble_eq_true rfl) ?_
  intro p_ e_ s_ m_ bl_ mt_ c_ ls hC hK hZ hl
  have hC : zz_C p_ s_ m_ _ mt_ c_ b_Arrays_fillI 4 none "java/util/Arrays" := hC
  have hx_ := hC.1
  have hb_ := hC.2.1
  have hl : lv_has ls 4 [(0, .ref (zz_ad (xg_G q) 8)), (1, .int v)] := hl
  have L5_ : ∀ (n_ : Nat) (i : Nat) (Si : zz_S) (H : Heap) (locs : List Loc) (ls : Array Slot) (hi : i ≤ 9) (ho : zz_off (fun c => c = 8) S Si) (hs : ∀ k, k < i → Si.1 8 k = v) (hZ : zz_Z (xg_G q) Si s_.heap H locs) (hl : lv_has ls 4 [(0, .ref (zz_ad (xg_G q) 8)), (1, .int v), (2, .int (nI i)), (3, .int (nI 9))]) (hn_ : 9 - i = n_), W p_ l e_ rm_Arrays_fillI s_ m_ ([.ref (zz_ad (xg_G q) 8), .int v] : List Value).toArray bl_ mt_ c_ H locs 0 0 (MQ bl_ (va_Qv (fun S1 => zz_off (fun c => c = 8) S S1 ∧ ∀ k, k < 9 → S1.1 8 k = v) (zz_P (xg_G q)) (zz_A (xg_G q))) ([.ref (zz_ad (xg_G q) 8), .int v] : List Value).toArray s_ 0 0 (zz_A (xg_G q))) (F0 m_ 5 ls []) := by
    intro n_
    induction n_ using Nat.strongRecOn with
    | ind n_ ih_ =>
      intro i Si H locs ls hi ho hs hZ hl hn_
      refine lv_iload_n hx_ hb_ d_Arrays_fillI_5 rfl (lv_at hl 2 rfl) ?_
      refine lv_iload_n hx_ hb_ d_Arrays_fillI_6 rfl (lv_at hl 3 rfl) ?_
      refine zz_jge (tgt := 20) hC d_Arrays_fillI_7 (by decide) (by omega) (by omega) (fun h7 => ?_) (fun h7 => ?_)
      · exact zz_vret hC hK hZ rfl d_Arrays_fillI_20 ⟨ho, fun k hk => hs k (by omega)⟩
      · refine lv_aload_n hx_ hb_ d_Arrays_fillI_10 rfl (lv_at hl 0 rfl) ?_
        refine lv_iload_n hx_ hb_ d_Arrays_fillI_11 rfl (lv_at hl 2 rfl) ?_
        refine lv_iload_n hx_ hb_ d_Arrays_fillI_12 rfl (lv_at hl 1 rfl) ?_
        refine zz_iast hC hK hZ 8 0 i (Nat.le_of_ble_eq_true rfl) (fun _ => xc_8 q _ _) rfl rfl (by omega) (by decide) d_Arrays_fillI_13 (fun H locs hZ => ?_)
        refine lv_iinc (k := 2) (v := nI (i + 1)) (lv' := [(2, .int (nI (i + 1))), (0, .ref (zz_ad (xg_G q) 8)), (1, .int v), (3, .int (nI 9))]) hx_ hb_ d_Arrays_fillI_14 hl rfl (nI_add _ 1) (by decide) rfl (fun ls hl => ?_)
        refine lv_goto (tgt := 5) hx_ hb_ d_Arrays_fillI_17 (by decide) ?_
        exact ih_ _ (by omega) (i + 1) (zz_u Si 8 i v)  _ _ _ (by omega) (zz_off_tr ho (fun d hd => ⟨zz_u1 Si _ i v d hd, rfl⟩)) (fun k hk => by
                    rw [zz_u1s]
                    by_cases e : k = i
                    · rw [e, pk_us]
                    · rw [pk_un e]
                      exact hs k (by omega)) hZ (lv_sub hl [1, 2, 0, 3] rfl) rfl
  have L5 : ∀ (i : Nat) (Si : zz_S) (H : Heap) (locs : List Loc) (ls : Array Slot) (hi : i ≤ 9) (ho : zz_off (fun c => c = 8) S Si) (hs : ∀ k, k < i → Si.1 8 k = v) (hZ : zz_Z (xg_G q) Si s_.heap H locs) (hl : lv_has ls 4 [(0, .ref (zz_ad (xg_G q) 8)), (1, .int v), (2, .int (nI i)), (3, .int (nI 9))]), W p_ l e_ rm_Arrays_fillI s_ m_ ([.ref (zz_ad (xg_G q) 8), .int v] : List Value).toArray bl_ mt_ c_ H locs 0 0 (MQ bl_ (va_Qv (fun S1 => zz_off (fun c => c = 8) S S1 ∧ ∀ k, k < 9 → S1.1 8 k = v) (zz_P (xg_G q)) (zz_A (xg_G q))) ([.ref (zz_ad (xg_G q) 8), .int v] : List Value).toArray s_ 0 0 (zz_A (xg_G q))) (F0 m_ 5 ls []) := fun i Si H locs ls hi ho hs hZ hl => L5_ _ i Si H locs ls hi ho hs hZ hl rfl
  refine lv_iconst (v := nI 0) hx_ hb_ d_Arrays_fillI_0 (by decide) ?_
  refine lv_istore_n (i := 2) (lv' := [(2, .int (nI 0)), (0, .ref (zz_ad (xg_G q) 8)), (1, .int v)]) hx_ hb_ d_Arrays_fillI_1 rfl hl (by decide) rfl (fun ls hl => ?_)
  refine lv_aload_n hx_ hb_ d_Arrays_fillI_2 rfl (lv_at hl 1 rfl) ?_
  refine zz_alen hC hK hZ 8 0 (Nat.le_of_ble_eq_true rfl) (xc_8 q _ _) rfl d_Arrays_fillI_3 ?_
  refine lv_istore_n (i := 3) (lv' := [(3, .int (nI 9)), (2, .int (nI 0)), (0, .ref (zz_ad (xg_G q) 8)), (1, .int v)]) hx_ hb_ d_Arrays_fillI_4 rfl hl (by decide) rfl (fun ls hl => ?_)
  exact L5 0 S  _ _ _ (by omega) zz_off_rf (fun k hk => absurd hk (Nat.not_lt_zero k)) hZ (lv_sub hl [2, 3, 1, 0] rfl)
set_option maxHeartbeats 4000000 in
set_option maxRecDepth 100000 in
theorem c_fill37 (l : Launch) (q : xg_T) (S : zz_S)  (v : Int32) : Met l y_Arrays_fillI (Cond.code y_Arrays_fillI b_Arrays_fillI 4 none :: zz_tbl) rm_Arrays_fillI (zz_Pc [.ref (zz_ad (xg_G q) 37), .int v] (xg_G q) S) (va_Qv (fun S1 => zz_off (fun c => c = 37) S S1 ∧ ∀ k, k < 4 → S1.1 37 k = v) (zz_P (xg_G q)) (zz_A (xg_G q))) 0 0 (zz_A (xg_G q)) := by
  refine zz_met (by decide) (Nat.le_of_ble_eq_true rfl) ?_
  intro p_ e_ s_ m_ bl_ mt_ c_ ls hC hK hZ hl
  have hC : zz_C p_ s_ m_ _ mt_ c_ b_Arrays_fillI 4 none "java/util/Arrays" := hC
  have hx_ := hC.1
  have hb_ := hC.2.1
  have hl : lv_has ls 4 [(0, .ref (zz_ad (xg_G q) 37)), (1, .int v)] := hl
  have L5_ : ∀ (n_ : Nat) (i : Nat) (Si : zz_S) (H : Heap) (locs : List Loc) (ls : Array Slot) (hi : i ≤ 4) (ho : zz_off (fun c => c = 37) S Si) (hs : ∀ k, k < i → Si.1 37 k = v) (hZ : zz_Z (xg_G q) Si s_.heap H locs) (hl : lv_has ls 4 [(0, .ref (zz_ad (xg_G q) 37)), (1, .int v), (2, .int (nI i)), (3, .int (nI 4))]) (hn_ : 4 - i = n_), W p_ l e_ rm_Arrays_fillI s_ m_ ([.ref (zz_ad (xg_G q) 37), .int v] : List Value).toArray bl_ mt_ c_ H locs 0 0 (MQ bl_ (va_Qv (fun S1 => zz_off (fun c => c = 37) S S1 ∧ ∀ k, k < 4 → S1.1 37 k = v) (zz_P (xg_G q)) (zz_A (xg_G q))) ([.ref (zz_ad (xg_G q) 37), .int v] : List Value).toArray s_ 0 0 (zz_A (xg_G q))) (F0 m_ 5 ls []) := by
    intro n_
    induction n_ using Nat.strongRecOn with
    | ind n_ ih_ =>
      intro i Si H locs ls hi ho hs hZ hl hn_
      refine lv_iload_n hx_ hb_ d_Arrays_fillI_5 rfl (lv_at hl 2 rfl) ?_
      refine lv_iload_n hx_ hb_ d_Arrays_fillI_6 rfl (lv_at hl 3 rfl) ?_
      refine zz_jge (tgt := 20) hC d_Arrays_fillI_7 (by decide) (by omega) (by omega) (fun h7 => ?_) (fun h7 => ?_)
      · exact zz_vret hC hK hZ rfl d_Arrays_fillI_20 ⟨ho, fun k hk => hs k (by omega)⟩
      · refine lv_aload_n hx_ hb_ d_Arrays_fillI_10 rfl (lv_at hl 0 rfl) ?_
        refine lv_iload_n hx_ hb_ d_Arrays_fillI_11 rfl (lv_at hl 2 rfl) ?_
        refine lv_iload_n hx_ hb_ d_Arrays_fillI_12 rfl (lv_at hl 1 rfl) ?_
        refine zz_iast hC hK hZ 37 0 i (Nat.le_of_ble_eq_true rfl) (fun _ => xc_37 q _ _) rfl rfl (by omega) (by decide) d_Arrays_fillI_13 (fun H locs hZ => ?_)
        refine lv_iinc (k := 2) (v := nI (i + 1)) (lv' := [(2, .int (nI (i + 1))), (0, .ref (zz_ad (xg_G q) 37)), (1, .int v), (3, .int (nI 4))]) hx_ hb_ d_Arrays_fillI_14 hl rfl (nI_add _ 1) (by decide) rfl (fun ls hl => ?_)
        refine lv_goto (tgt := 5) hx_ hb_ d_Arrays_fillI_17 (by decide) ?_
        exact ih_ _ (by omega) (i + 1) (zz_u Si 37 i v)  _ _ _ (by omega) (zz_off_tr ho (fun d hd => ⟨zz_u1 Si _ i v d hd, rfl⟩)) (fun k hk => by
                    rw [zz_u1s]
                    by_cases e : k = i
                    · rw [e, pk_us]
                    · rw [pk_un e]
                      exact hs k (by omega)) hZ (lv_sub hl [1, 2, 0, 3] rfl) rfl
  have L5 : ∀ (i : Nat) (Si : zz_S) (H : Heap) (locs : List Loc) (ls : Array Slot) (hi : i ≤ 4) (ho : zz_off (fun c => c = 37) S Si) (hs : ∀ k, k < i → Si.1 37 k = v) (hZ : zz_Z (xg_G q) Si s_.heap H locs) (hl : lv_has ls 4 [(0, .ref (zz_ad (xg_G q) 37)), (1, .int v), (2, .int (nI i)), (3, .int (nI 4))]), W p_ l e_ rm_Arrays_fillI s_ m_ ([.ref (zz_ad (xg_G q) 37), .int v] : List Value).toArray bl_ mt_ c_ H locs 0 0 (MQ bl_ (va_Qv (fun S1 => zz_off (fun c => c = 37) S S1 ∧ ∀ k, k < 4 → S1.1 37 k = v) (zz_P (xg_G q)) (zz_A (xg_G q))) ([.ref (zz_ad (xg_G q) 37), .int v] : List Value).toArray s_ 0 0 (zz_A (xg_G q))) (F0 m_ 5 ls []) := fun i Si H locs ls hi ho hs hZ hl => L5_ _ i Si H locs ls hi ho hs hZ hl rfl
  refine lv_iconst (v := nI 0) hx_ hb_ d_Arrays_fillI_0 (by decide) ?_
  refine lv_istore_n (i := 2) (lv' := [(2, .int (nI 0)), (0, .ref (zz_ad (xg_G q) 37)), (1, .int v)]) hx_ hb_ d_Arrays_fillI_1 rfl hl (by decide) rfl (fun ls hl => ?_)
  refine lv_aload_n hx_ hb_ d_Arrays_fillI_2 rfl (lv_at hl 1 rfl) ?_
  refine zz_alen hC hK hZ 37 0 (Nat.le_of_ble_eq_true rfl) (xc_37 q _ _) rfl d_Arrays_fillI_3 ?_
  refine lv_istore_n (i := 3) (lv' := [(3, .int (nI 4)), (2, .int (nI 0)), (0, .ref (zz_ad (xg_G q) 37)), (1, .int v)]) hx_ hb_ d_Arrays_fillI_4 rfl hl (by decide) rfl (fun ls hl => ?_)
  exact L5 0 S  _ _ _ (by omega) zz_off_rf (fun k hk => absurd hk (Nat.not_lt_zero k)) hZ (lv_sub hl [2, 3, 1, 0] rfl)
set_option maxHeartbeats 4000000 in
set_option maxRecDepth 100000 in
theorem c_fillC (l : Launch) (q : xg_T) (S : zz_S) (j : Nat) (hj : j ≤ 82) (v : Int32) : Met l y_Arrays_fillI (Cond.code y_Arrays_fillI b_Arrays_fillI 4 none :: zz_tbl) rm_Arrays_fillI (zz_Pc [.ref (zz_ad (xg_G q) (42 + 3 * j + 2)), .int v] (xg_G q) S) (va_Qv (fun S1 => zz_off (fun c => c = (42 + 3 * j + 2)) S S1 ∧ ∀ k, k < 4 → S1.1 ((42 + 3 * j + 2)) k = v) (zz_P (xg_G q)) (zz_A (xg_G q))) 0 0 (zz_A (xg_G q)) := by
  refine zz_met (by decide) (Nat.le_of_ble_eq_true rfl) ?_
  intro p_ e_ s_ m_ bl_ mt_ c_ ls hC hK hZ hl
  have hC : zz_C p_ s_ m_ _ mt_ c_ b_Arrays_fillI 4 none "java/util/Arrays" := hC
  have hx_ := hC.1
  have hb_ := hC.2.1
  have hl : lv_has ls 4 [(0, .ref (zz_ad (xg_G q) (42 + 3 * j + 2))), (1, .int v)] := hl
  have L5_ : ∀ (n_ : Nat) (i : Nat) (Si : zz_S) (H : Heap) (locs : List Loc) (ls : Array Slot) (hi : i ≤ 4) (ho : zz_off (fun c => c = (42 + 3 * j + 2)) S Si) (hs : ∀ k, k < i → Si.1 ((42 + 3 * j + 2)) k = v) (hZ : zz_Z (xg_G q) Si s_.heap H locs) (hl : lv_has ls 4 [(0, .ref (zz_ad (xg_G q) (42 + 3 * j + 2))), (1, .int v), (2, .int (nI i)), (3, .int (nI 4))]) (hn_ : 4 - i = n_), W p_ l e_ rm_Arrays_fillI s_ m_ ([.ref (zz_ad (xg_G q) (42 + 3 * j + 2)), .int v] : List Value).toArray bl_ mt_ c_ H locs 0 0 (MQ bl_ (va_Qv (fun S1 => zz_off (fun c => c = (42 + 3 * j + 2)) S S1 ∧ ∀ k, k < 4 → S1.1 ((42 + 3 * j + 2)) k = v) (zz_P (xg_G q)) (zz_A (xg_G q))) ([.ref (zz_ad (xg_G q) (42 + 3 * j + 2)), .int v] : List Value).toArray s_ 0 0 (zz_A (xg_G q))) (F0 m_ 5 ls []) := by
    intro n_
    induction n_ using Nat.strongRecOn with
    | ind n_ ih_ =>
      intro i Si H locs ls hi ho hs hZ hl hn_
      refine lv_iload_n hx_ hb_ d_Arrays_fillI_5 rfl (lv_at hl 2 rfl) ?_
      refine lv_iload_n hx_ hb_ d_Arrays_fillI_6 rfl (lv_at hl 3 rfl) ?_
      refine zz_jge (tgt := 20) hC d_Arrays_fillI_7 (by decide) (by omega) (by omega) (fun h7 => ?_) (fun h7 => ?_)
      · exact zz_vret hC hK hZ rfl d_Arrays_fillI_20 ⟨ho, fun k hk => hs k (by omega)⟩
      · refine lv_aload_n hx_ hb_ d_Arrays_fillI_10 rfl (lv_at hl 0 rfl) ?_
        refine lv_iload_n hx_ hb_ d_Arrays_fillI_11 rfl (lv_at hl 2 rfl) ?_
        refine lv_iload_n hx_ hb_ d_Arrays_fillI_12 rfl (lv_at hl 1 rfl) ?_
        refine zz_iast hC hK hZ (42 + 3 * j + 2) 0 i (by show _ < 291; omega) (fun _ => xy_choi q j _ _) rfl rfl (by omega) (by decide) d_Arrays_fillI_13 (fun H locs hZ => ?_)
        refine lv_iinc (k := 2) (v := nI (i + 1)) (lv' := [(2, .int (nI (i + 1))), (0, .ref (zz_ad (xg_G q) (42 + 3 * j + 2))), (1, .int v), (3, .int (nI 4))]) hx_ hb_ d_Arrays_fillI_14 hl rfl (nI_add _ 1) (by decide) rfl (fun ls hl => ?_)
        refine lv_goto (tgt := 5) hx_ hb_ d_Arrays_fillI_17 (by decide) ?_
        exact ih_ _ (by omega) (i + 1) (zz_u Si (42 + 3 * j + 2) i v)  _ _ _ (by omega) (zz_off_tr ho (fun d hd => ⟨zz_u1 Si _ i v d hd, rfl⟩)) (fun k hk => by
                    rw [zz_u1s]
                    by_cases e : k = i
                    · rw [e, pk_us]
                    · rw [pk_un e]
                      exact hs k (by omega)) hZ (lv_sub hl [1, 2, 0, 3] rfl) rfl
  have L5 : ∀ (i : Nat) (Si : zz_S) (H : Heap) (locs : List Loc) (ls : Array Slot) (hi : i ≤ 4) (ho : zz_off (fun c => c = (42 + 3 * j + 2)) S Si) (hs : ∀ k, k < i → Si.1 ((42 + 3 * j + 2)) k = v) (hZ : zz_Z (xg_G q) Si s_.heap H locs) (hl : lv_has ls 4 [(0, .ref (zz_ad (xg_G q) (42 + 3 * j + 2))), (1, .int v), (2, .int (nI i)), (3, .int (nI 4))]), W p_ l e_ rm_Arrays_fillI s_ m_ ([.ref (zz_ad (xg_G q) (42 + 3 * j + 2)), .int v] : List Value).toArray bl_ mt_ c_ H locs 0 0 (MQ bl_ (va_Qv (fun S1 => zz_off (fun c => c = (42 + 3 * j + 2)) S S1 ∧ ∀ k, k < 4 → S1.1 ((42 + 3 * j + 2)) k = v) (zz_P (xg_G q)) (zz_A (xg_G q))) ([.ref (zz_ad (xg_G q) (42 + 3 * j + 2)), .int v] : List Value).toArray s_ 0 0 (zz_A (xg_G q))) (F0 m_ 5 ls []) := fun i Si H locs ls hi ho hs hZ hl => L5_ _ i Si H locs ls hi ho hs hZ hl rfl
  refine lv_iconst (v := nI 0) hx_ hb_ d_Arrays_fillI_0 (by decide) ?_
  refine lv_istore_n (i := 2) (lv' := [(2, .int (nI 0)), (0, .ref (zz_ad (xg_G q) (42 + 3 * j + 2))), (1, .int v)]) hx_ hb_ d_Arrays_fillI_1 rfl hl (by decide) rfl (fun ls hl => ?_)
  refine lv_aload_n hx_ hb_ d_Arrays_fillI_2 rfl (lv_at hl 1 rfl) ?_
  refine zz_alen hC hK hZ (42 + 3 * j + 2) 0 (by show _ < 291; omega) (xy_choi q j _ _) rfl d_Arrays_fillI_3 ?_
  refine lv_istore_n (i := 3) (lv' := [(3, .int (nI 4)), (2, .int (nI 0)), (0, .ref (zz_ad (xg_G q) (42 + 3 * j + 2))), (1, .int v)]) hx_ hb_ d_Arrays_fillI_4 rfl hl (by decide) rfl (fun ls hl => ?_)
  exact L5 0 S  _ _ _ (by omega) zz_off_rf (fun k hk => absurd hk (Nat.not_lt_zero k)) hZ (lv_sub hl [2, 3, 1, 0] rfl)
set_option maxHeartbeats 4000000 in
set_option maxRecDepth 100000 in
theorem c_fillL (l : Launch) (q : xg_T) (S : zz_S) (j : Nat) (hj : j ≤ 82) (v : Int64) : Met l y_Arrays_fillJ (Cond.code y_Arrays_fillJ b_Arrays_fillJ 5 none :: zz_tbl) rm_Arrays_fillJ (zz_Pc [.ref (zz_ad (xg_G q) (42 + 3 * j + 1)), .long v] (xg_G q) S) (va_Qv (fun S1 => zz_off (fun c => c = 42 + 3 * j + 1) S S1 ∧ ∀ k, k < 4 → S1.2 (42 + 3 * j + 1) k = v) (zz_P (xg_G q)) (zz_A (xg_G q))) 0 0 (zz_A (xg_G q)) := by
  refine zz_met (by decide) (Nat.le_of_ble_eq_true rfl) ?_
  intro p_ e_ s_ m_ bl_ mt_ c_ ls hC hK hZ hl
  have hC : zz_C p_ s_ m_ _ mt_ c_ b_Arrays_fillJ 5 none "java/util/Arrays" := hC
  have hx_ := hC.1
  have hb_ := hC.2.1
  have hl : lv_has ls 5 [(0, .ref (zz_ad (xg_G q) (42 + 3 * j + 1))), (1, .long v)] := hl
  have L6_ : ∀ (n_ : Nat) (i : Nat) (Si : zz_S) (H : Heap) (locs : List Loc) (ls : Array Slot) (hi : i ≤ 4) (ho : zz_off (fun c => c = 42 + 3 * j + 1) S Si) (hs : ∀ k, k < i → Si.2 (42 + 3 * j + 1) k = v) (hZ : zz_Z (xg_G q) Si s_.heap H locs) (hl : lv_has ls 5 [(0, .ref (zz_ad (xg_G q) (42 + 3 * j + 1))), (1, .long v), (3, .int (nI i)), (4, .int (nI 4))]) (hn_ : 4 - i = n_), W p_ l e_ rm_Arrays_fillJ s_ m_ ([.ref (zz_ad (xg_G q) (42 + 3 * j + 1)), .long v] : List Value).toArray bl_ mt_ c_ H locs 0 0 (MQ bl_ (va_Qv (fun S1 => zz_off (fun c => c = 42 + 3 * j + 1) S S1 ∧ ∀ k, k < 4 → S1.2 (42 + 3 * j + 1) k = v) (zz_P (xg_G q)) (zz_A (xg_G q))) ([.ref (zz_ad (xg_G q) (42 + 3 * j + 1)), .long v] : List Value).toArray s_ 0 0 (zz_A (xg_G q))) (F0 m_ 6 ls []) := by
    intro n_
    induction n_ using Nat.strongRecOn with
    | ind n_ ih_ =>
      intro i Si H locs ls hi ho hs hZ hl hn_
      refine lv_iload_n hx_ hb_ d_Arrays_fillJ_6 rfl (lv_at hl 2 rfl) ?_
      refine lv_iload hx_ hb_ d_Arrays_fillJ_7 (lv_at hl 3 rfl) ?_
      refine zz_jge (tgt := 22) hC d_Arrays_fillJ_9 (by decide) (by omega) (by omega) (fun h9 => ?_) (fun h9 => ?_)
      · exact zz_vret hC hK hZ rfl d_Arrays_fillJ_22 ⟨ho, fun k hk => hs k (by omega)⟩
      · refine lv_aload_n hx_ hb_ d_Arrays_fillJ_12 rfl (lv_at hl 0 rfl) ?_
        refine lv_iload_n hx_ hb_ d_Arrays_fillJ_13 rfl (lv_at hl 2 rfl) ?_
        refine lv_lload_n hx_ hb_ d_Arrays_fillJ_14 rfl (lv_at hl 1 rfl) ?_
        refine zz_last hC hK hZ (42 + 3 * j + 1) 1 i (by show _ < 291; omega) (fun _ => xy_cost q j _ _) rfl rfl (by omega) (by decide) d_Arrays_fillJ_15 (fun H locs hZ => ?_)
        refine lv_iinc (k := 2) (v := nI (i + 1)) (lv' := [(3, .int (nI (i + 1))), (0, .ref (zz_ad (xg_G q) (42 + 3 * j + 1))), (1, .long v), (4, .int (nI 4))]) hx_ hb_ d_Arrays_fillJ_16 hl rfl (nI_add _ 1) (by decide) rfl (fun ls hl => ?_)
        refine lv_goto (tgt := 6) hx_ hb_ d_Arrays_fillJ_19 (by decide) ?_
        exact ih_ _ (by omega) (i + 1) (zz_v Si (42 + 3 * j + 1) i v)  _ _ _ (by omega) (zz_off_tr ho (fun d hd => ⟨rfl, zz_v2 Si _ i v d hd⟩)) (fun k hk => by
                    rw [zz_v2s]
                    by_cases e : k = i
                    · rw [e, pk_uLs]
                    · rw [pk_uLn e]
                      exact hs k (by omega)) hZ (lv_sub hl [1, 2, 0, 3] rfl) rfl
  have L6 : ∀ (i : Nat) (Si : zz_S) (H : Heap) (locs : List Loc) (ls : Array Slot) (hi : i ≤ 4) (ho : zz_off (fun c => c = 42 + 3 * j + 1) S Si) (hs : ∀ k, k < i → Si.2 (42 + 3 * j + 1) k = v) (hZ : zz_Z (xg_G q) Si s_.heap H locs) (hl : lv_has ls 5 [(0, .ref (zz_ad (xg_G q) (42 + 3 * j + 1))), (1, .long v), (3, .int (nI i)), (4, .int (nI 4))]), W p_ l e_ rm_Arrays_fillJ s_ m_ ([.ref (zz_ad (xg_G q) (42 + 3 * j + 1)), .long v] : List Value).toArray bl_ mt_ c_ H locs 0 0 (MQ bl_ (va_Qv (fun S1 => zz_off (fun c => c = 42 + 3 * j + 1) S S1 ∧ ∀ k, k < 4 → S1.2 (42 + 3 * j + 1) k = v) (zz_P (xg_G q)) (zz_A (xg_G q))) ([.ref (zz_ad (xg_G q) (42 + 3 * j + 1)), .long v] : List Value).toArray s_ 0 0 (zz_A (xg_G q))) (F0 m_ 6 ls []) := fun i Si H locs ls hi ho hs hZ hl => L6_ _ i Si H locs ls hi ho hs hZ hl rfl
  refine lv_iconst (v := nI 0) hx_ hb_ d_Arrays_fillJ_0 (by decide) ?_
  refine lv_istore_n (i := 3) (lv' := [(3, .int (nI 0)), (0, .ref (zz_ad (xg_G q) (42 + 3 * j + 1))), (1, .long v)]) hx_ hb_ d_Arrays_fillJ_1 rfl hl (by decide) rfl (fun ls hl => ?_)
  refine lv_aload_n hx_ hb_ d_Arrays_fillJ_2 rfl (lv_at hl 1 rfl) ?_
  refine zz_alen hC hK hZ (42 + 3 * j + 1) 1 (by show _ < 291; omega) (xy_cost q j _ _) rfl d_Arrays_fillJ_3 ?_
  refine lv_istore (i := 4) (lv' := [(4, .int (nI 4)), (3, .int (nI 0)), (0, .ref (zz_ad (xg_G q) (42 + 3 * j + 1))), (1, .long v)]) hx_ hb_ d_Arrays_fillJ_4 hl (by decide) rfl (fun ls hl => ?_)
  exact L6 0 S  _ _ _ (by omega) zz_off_rf (fun k hk => absurd hk (Nat.not_lt_zero k)) hZ (lv_sub hl [2, 3, 1, 0] rfl)
set_option maxHeartbeats 4000000 in
set_option maxRecDepth 100000 in
theorem c_Label_isCovered (l : Launch) (q : xg_T) (S : zz_S) (j k x : Nat) (hj : j ≤ 82) (hk : k < 4) (hx : S.2 (42 + 3 * j + 1) k = vw_c x) : Met l y_Label_isCovered (Cond.code y_Label_isCovered b_Label_isCovered 2 (some .boolean) :: zz_tbl) rm_Label_isCovered (zz_Pc [.ref (zz_ad (xg_G q) (42 + 3 * j)), .int (nI k)] (xg_G q) S) (va_Qi (fun ans S1 => S = S1 ∧ ans = nI (if x < mx_far then 1 else 0)) (zz_P (xg_G q)) (zz_A (xg_G q))) 0 0 (zz_A (xg_G q)) := by
  refine zz_met (by decide) (Nat.le_of_ble_eq_true rfl) ?_
  intro p_ e_ s_ m_ bl_ mt_ c_ ls hC hK hZ hl
  have hC : zz_C p_ s_ m_ _ mt_ c_ b_Label_isCovered 2 (some .boolean) "TreeCoverForge$Label" := hC
  have hx_ := hC.1
  have hb_ := hC.2.1
  have hl : lv_has ls 2 [(0, .ref (zz_ad (xg_G q) (42 + 3 * j))), (1, .int (nI k))] := hl
  have hx0 := hx
  refine lv_aload_n hx_ hb_ d_Label_isCovered_0 rfl (lv_at hl 0 rfl) ?_
  refine zz_get hC hK hZ (42 + 3 * j) 0 (by show _ < 291; omega) (xy_lab q j _ _) rfl hin_Label (by decide) wd_104 rfl rfl d_Label_isCovered_1 ?_
  refine lv_iload_n hx_ hb_ d_Label_isCovered_4 rfl (lv_at hl 1 rfl) ?_
  refine zz_lald hC hK hZ (42 + 3 * j + 1) 1 k (by show _ < 291; omega) (xy_cost q j _ _) rfl rfl (by omega) (by decide) rfl d_Label_isCovered_5 ?_
  refine zz_topl (y := vw_c x) hx0 ?_
  refine lv_ldc2 (v := (-1)) hx_ hb_ hC.2.2.2.1 (hC.2.2.2.2.1 _ wd_298) d_Label_isCovered_6 ?_
  refine W.lcmp hx_ hb_ d_Label_isCovered_9 ?_
  refine lv_if_eq (tgt := 17) hx_ hb_ d_Label_isCovered_10 (by decide) (fun h10 => ?_) (fun h10 => ?_)
  · have h10 : (vw_c x) = ((-1)) := (lg_cmp_eq _ _).mp h10
    refine lv_iconst (v := nI 0) hx_ hb_ d_Label_isCovered_17 (by decide) ?_
    exact zz_zret hC hK hZ rfl d_Label_isCovered_18 (by decide) ⟨rfl, by rw [if_neg (vw_c_m1 h10)]⟩
  · have h10 : ¬ ((vw_c x) = ((-1))) := fun x => h10 ((lg_cmp_eq _ _).mpr x)
    refine lv_iconst (v := nI 1) hx_ hb_ d_Label_isCovered_13 (by decide) ?_
    refine lv_goto (tgt := 18) hx_ hb_ d_Label_isCovered_14 (by decide) ?_
    exact zz_zret hC hK hZ rfl d_Label_isCovered_18 (by decide) ⟨rfl, by rw [if_pos (vw_c_n1 h10)]⟩
set_option maxHeartbeats 4000000 in
set_option maxRecDepth 100000 in
theorem c_Label_offer (l : Launch) (q : xg_T) (S : zz_S) (j r b kd pr x y : Nat) (hj : j ≤ 82) (hr : r < 24) (hkd : kd < 4) (hpr : pr ≤ 9) (h2 : S.1 2 r = nI kd) (h6 : S.1 6 r = nI pr) (hT : b + pr < mx_far) (hx : S.2 (42 + 3 * j + 1) kd = vw_c x) (hy : x < mx_far → S.1 (42 + 3 * j + 2) kd = nI y ∧ y < 24) : Met l y_Label_offer (Cond.code y_Label_offer b_Label_offer 9 (some .boolean) :: zz_tbl) rm_Label_offer (zz_Pc [.ref (zz_ad (xg_G q) (42 + 3 * j)), .ref (zz_ad (xg_G q) 1), .int (nI r), .long (lN b)] (xg_G q) S) (va_Qi (fun ans S1 => ans = nI (if (b + pr < x ∨ b + pr = x ∧ r < y) then 1 else 0) ∧ S1 = if (b + pr < x ∨ b + pr = x ∧ r < y) then (xl_set S j kd (lN (b + pr)) (nI r)) else S) (zz_P (xg_G q)) (zz_A (xg_G q))) 0 0 (zz_A (xg_G q)) := by
  refine zz_met (by decide) (Nat.le_of_ble_eq_true rfl) ?_
  intro p_ e_ s_ m_ bl_ mt_ c_ ls hC hK hZ hl
  have hC : zz_C p_ s_ m_ _ mt_ c_ b_Label_offer 9 (some .boolean) "TreeCoverForge$Label" := hC
  have hx_ := hC.1
  have hb_ := hC.2.1
  have hl : lv_has ls 9 [(0, .ref (zz_ad (xg_G q) (42 + 3 * j))), (1, .ref (zz_ad (xg_G q) 1)), (2, .int (nI r)), (3, .long (lN b))] := hl
  have hx0 := hx
  have hfar := vw_far
  have J74 : ∀  (H : Heap) (locs : List Loc) (ls : Array Slot) (hb0 : ¬ (b + pr < x ∨ b + pr = x ∧ r < y)) (hZ : zz_Z (xg_G q) S s_.heap H locs) (hl : lv_has ls 9 [(0, .ref (zz_ad (xg_G q) (42 + 3 * j))), (1, .ref (zz_ad (xg_G q) 1)), (2, .int (nI r)), (3, .long (lN b)), (5, .int (nI kd)), (6, .long (lN (b + pr)))]), W p_ l e_ rm_Label_offer s_ m_ ([.ref (zz_ad (xg_G q) (42 + 3 * j)), .ref (zz_ad (xg_G q) 1), .int (nI r), .long (lN b)] : List Value).toArray bl_ mt_ c_ H locs 0 0 (MQ bl_ (va_Qi (fun ans S1 => ans = nI (if (b + pr < x ∨ b + pr = x ∧ r < y) then 1 else 0) ∧ S1 = if (b + pr < x ∨ b + pr = x ∧ r < y) then (xl_set S j kd (lN (b + pr)) (nI r)) else S) (zz_P (xg_G q)) (zz_A (xg_G q))) ([.ref (zz_ad (xg_G q) (42 + 3 * j)), .ref (zz_ad (xg_G q) 1), .int (nI r), .long (lN b)] : List Value).toArray s_ 0 0 (zz_A (xg_G q))) (F0 m_ 74 ls []) := by
    intro  H locs ls hb0 hZ hl
    refine lv_iconst (v := nI 0) hx_ hb_ d_Label_offer_74 (by decide) ?_
    refine lv_istore (i := 8) (lv' := [(8, .int (nI 0)), (0, .ref (zz_ad (xg_G q) (42 + 3 * j))), (1, .ref (zz_ad (xg_G q) 1)), (2, .int (nI r)), (3, .long (lN b)), (5, .int (nI kd)), (6, .long (lN (b + pr)))]) hx_ hb_ d_Label_offer_75 hl (by decide) rfl (fun ls hl => ?_)
    refine lv_iload hx_ hb_ d_Label_offer_77 (lv_at hl 0 rfl) ?_
    refine zz_ieq (tgt := 99) hC d_Label_offer_79 (by decide) (by omega) (fun h79 => ?_) (fun h79 => ?_)
    · refine lv_iload hx_ hb_ d_Label_offer_99 (lv_at hl 0 rfl) ?_
      exact zz_zret hC hK hZ rfl d_Label_offer_101 (by decide) ⟨by rw [if_neg hb0], by rw [if_neg hb0]⟩
    · exact absurd rfl h79
  have J70 : ∀  (H : Heap) (locs : List Loc) (ls : Array Slot) (hb1 : (b + pr < x ∨ b + pr = x ∧ r < y)) (hZ : zz_Z (xg_G q) S s_.heap H locs) (hl : lv_has ls 9 [(0, .ref (zz_ad (xg_G q) (42 + 3 * j))), (1, .ref (zz_ad (xg_G q) 1)), (2, .int (nI r)), (3, .long (lN b)), (5, .int (nI kd)), (6, .long (lN (b + pr)))]), W p_ l e_ rm_Label_offer s_ m_ ([.ref (zz_ad (xg_G q) (42 + 3 * j)), .ref (zz_ad (xg_G q) 1), .int (nI r), .long (lN b)] : List Value).toArray bl_ mt_ c_ H locs 0 0 (MQ bl_ (va_Qi (fun ans S1 => ans = nI (if (b + pr < x ∨ b + pr = x ∧ r < y) then 1 else 0) ∧ S1 = if (b + pr < x ∨ b + pr = x ∧ r < y) then (xl_set S j kd (lN (b + pr)) (nI r)) else S) (zz_P (xg_G q)) (zz_A (xg_G q))) ([.ref (zz_ad (xg_G q) (42 + 3 * j)), .ref (zz_ad (xg_G q) 1), .int (nI r), .long (lN b)] : List Value).toArray s_ 0 0 (zz_A (xg_G q))) (F0 m_ 70 ls []) := by
    intro  H locs ls hb1 hZ hl
    refine lv_iconst (v := nI 1) hx_ hb_ d_Label_offer_70 (by decide) ?_
    refine lv_goto (tgt := 75) hx_ hb_ d_Label_offer_71 (by decide) ?_
    refine lv_istore (i := 8) (lv' := [(8, .int (nI 1)), (0, .ref (zz_ad (xg_G q) (42 + 3 * j))), (1, .ref (zz_ad (xg_G q) 1)), (2, .int (nI r)), (3, .long (lN b)), (5, .int (nI kd)), (6, .long (lN (b + pr)))]) hx_ hb_ d_Label_offer_75 hl (by decide) rfl (fun ls hl => ?_)
    refine lv_iload hx_ hb_ d_Label_offer_77 (lv_at hl 0 rfl) ?_
    refine zz_ieq (tgt := 99) hC d_Label_offer_79 (by decide) (by omega) (fun h79 => ?_) (fun h79 => ?_)
    · exact absurd h79 (by decide)
    · refine lv_aload_n hx_ hb_ d_Label_offer_82 rfl (lv_at hl 1 rfl) ?_
      refine zz_get hC hK hZ (42 + 3 * j) 0 (by show _ < 291; omega) (xy_lab q j _ _) rfl hin_Label (by decide) wd_104 rfl rfl d_Label_offer_83 ?_
      refine lv_iload hx_ hb_ d_Label_offer_86 (lv_at hl 5 rfl) ?_
      refine lv_lload hx_ hb_ d_Label_offer_88 (lv_at hl 6 rfl) ?_
      refine zz_last hC hK hZ (42 + 3 * j + 1) 1 kd (by show _ < 291; omega) (fun _ => xy_cost q j _ _) rfl rfl (by omega) (by decide) d_Label_offer_90 (fun H locs hZ => ?_)
      refine lv_aload_n hx_ hb_ d_Label_offer_91 rfl (lv_at hl 1 rfl) ?_
      refine zz_get hC hK hZ (42 + 3 * j) 1 (by show _ < 291; omega) (xy_lab q j _ _) rfl hin_Label (by decide) wd_106 rfl rfl d_Label_offer_92 ?_
      refine lv_iload hx_ hb_ d_Label_offer_95 (lv_at hl 5 rfl) ?_
      refine lv_iload_n hx_ hb_ d_Label_offer_97 rfl (lv_at hl 3 rfl) ?_
      refine zz_iast hC hK hZ (42 + 3 * j + 2) 0 kd (by show _ < 291; omega) (fun _ => xy_choi q j _ _) rfl rfl (by omega) (by decide) d_Label_offer_98 (fun H locs hZ => ?_)
      refine lv_iload hx_ hb_ d_Label_offer_99 (lv_at hl 0 rfl) ?_
      exact zz_zret hC hK hZ rfl d_Label_offer_101 (by decide) ⟨by rw [if_pos hb1], by rw [if_pos hb1]; rfl⟩
  refine lv_aload_n hx_ hb_ d_Label_offer_0 rfl (lv_at hl 1 rfl) ?_
  refine zz_get hC hK hZ 1 0 (Nat.le_of_ble_eq_true rfl) (xc_1 q _ _) rfl hin_Book (by decide) wd_56 rfl rfl d_Label_offer_1 ?_
  refine lv_iload_n hx_ hb_ d_Label_offer_4 rfl (lv_at hl 2 rfl) ?_
  refine zz_iald hC hK hZ 2 0 r (Nat.le_of_ble_eq_true rfl) (xc_2 q _ _) rfl rfl (by omega) (by decide) rfl d_Label_offer_5 ?_
  refine zz_topi (y := nI kd) h2 ?_
  refine lv_istore (i := 5) (lv' := [(5, .int (nI kd)), (0, .ref (zz_ad (xg_G q) (42 + 3 * j))), (1, .ref (zz_ad (xg_G q) 1)), (2, .int (nI r)), (3, .long (lN b))]) hx_ hb_ d_Label_offer_6 hl (by decide) rfl (fun ls hl => ?_)
  refine lv_lload_n hx_ hb_ d_Label_offer_8 rfl (lv_at hl 4 rfl) ?_
  refine lv_aload_n hx_ hb_ d_Label_offer_9 rfl (lv_at hl 2 rfl) ?_
  refine zz_get hC hK hZ 1 4 (Nat.le_of_ble_eq_true rfl) (xc_1 q _ _) rfl hin_Book (by decide) wd_66 rfl rfl d_Label_offer_10 ?_
  refine lv_iload_n hx_ hb_ d_Label_offer_13 rfl (lv_at hl 3 rfl) ?_
  refine zz_iald hC hK hZ 6 0 r (Nat.le_of_ble_eq_true rfl) (xc_6 q _ _) rfl rfl (by omega) (by decide) rfl d_Label_offer_14 ?_
  refine zz_topi (y := nI pr) h6 ?_
  refine lv_i2l (v := lN pr) hx_ hb_ d_Label_offer_15 (nI_l (by omega)) ?_
  refine lv_ladd hx_ hb_ d_Label_offer_16 ?_
  refine zz_topl (y := lN (b + pr)) (lN_add _ _) ?_
  refine lv_lstore (i := 6) (lv' := [(6, .long (lN (b + pr))), (5, .int (nI kd)), (0, .ref (zz_ad (xg_G q) (42 + 3 * j))), (1, .ref (zz_ad (xg_G q) 1)), (2, .int (nI r)), (3, .long (lN b))]) hx_ hb_ d_Label_offer_17 hl (by decide) rfl (fun ls hl => ?_)
  refine lv_aload_n hx_ hb_ d_Label_offer_19 rfl (lv_at hl 2 rfl) ?_
  refine zz_get hC hK hZ (42 + 3 * j) 0 (by show _ < 291; omega) (xy_lab q j _ _) rfl hin_Label (by decide) wd_104 rfl rfl d_Label_offer_20 ?_
  refine lv_iload hx_ hb_ d_Label_offer_23 (lv_at hl 1 rfl) ?_
  refine zz_lald hC hK hZ (42 + 3 * j + 1) 1 kd (by show _ < 291; omega) (xy_cost q j _ _) rfl rfl (by omega) (by decide) rfl d_Label_offer_25 ?_
  refine zz_topl (y := vw_c x) hx0 ?_
  refine lv_ldc2 (v := (-1)) hx_ hb_ hC.2.2.2.1 (hC.2.2.2.2.1 _ wd_298) d_Label_offer_26 ?_
  refine W.lcmp hx_ hb_ d_Label_offer_29 ?_
  refine lv_if_eq (tgt := 70) hx_ hb_ d_Label_offer_30 (by decide) (fun h30 => ?_) (fun h30 => ?_)
  · have h30 : (vw_c x) = ((-1)) := (lg_cmp_eq _ _).mp h30
    exact J70   _ _ _ (by first | (have h0 := vw_c_m1 h30; omega) | omega) hZ (lv_sub hl [2, 3, 4, 5, 1, 0] rfl)
  · have h30 : ¬ ((vw_c x) = ((-1))) := fun x => h30 ((lg_cmp_eq _ _).mpr x)
    have hxf := vw_c_n1 h30
    have hyf := (hy hxf).2
    refine lv_lload hx_ hb_ d_Label_offer_33 (lv_at hl 0 rfl) ?_
    refine lv_aload_n hx_ hb_ d_Label_offer_35 rfl (lv_at hl 2 rfl) ?_
    refine zz_get hC hK hZ (42 + 3 * j) 0 (by show _ < 291; omega) (xy_lab q j _ _) rfl hin_Label (by decide) wd_104 rfl rfl d_Label_offer_36 ?_
    refine lv_iload hx_ hb_ d_Label_offer_39 (lv_at hl 1 rfl) ?_
    refine zz_lald hC hK hZ (42 + 3 * j + 1) 1 kd (by show _ < 291; omega) (xy_cost q j _ _) rfl rfl (by omega) (by decide) rfl d_Label_offer_41 ?_
    refine zz_topl (y := lN x) (hx0.trans (vw_c_in hxf)) ?_
    refine W.lcmp hx_ hb_ d_Label_offer_42 ?_
    refine lv_if_lt (tgt := 70) hx_ hb_ d_Label_offer_43 (by decide) (fun h43 => ?_) (fun h43 => ?_)
    · have h43 : (lN (b + pr)) < (lN x) := (lg_cmp_lt _ _).mp h43
      rw [pk_lLT (by omega) (by omega)] at h43
      exact J70   _ _ _ (by first | (have h0 := vw_c_m1 h30; omega) | omega) hZ (lv_sub hl [2, 3, 4, 5, 1, 0] rfl)
    · have h43 : ¬ ((lN (b + pr)) < (lN x)) := fun x => h43 ((lg_cmp_lt _ _).mpr x)
      rw [pk_lLT (by omega) (by omega)] at h43
      refine lv_lload hx_ hb_ d_Label_offer_46 (lv_at hl 0 rfl) ?_
      refine lv_aload_n hx_ hb_ d_Label_offer_48 rfl (lv_at hl 2 rfl) ?_
      refine zz_get hC hK hZ (42 + 3 * j) 0 (by show _ < 291; omega) (xy_lab q j _ _) rfl hin_Label (by decide) wd_104 rfl rfl d_Label_offer_49 ?_
      refine lv_iload hx_ hb_ d_Label_offer_52 (lv_at hl 1 rfl) ?_
      refine zz_lald hC hK hZ (42 + 3 * j + 1) 1 kd (by show _ < 291; omega) (xy_cost q j _ _) rfl rfl (by omega) (by decide) rfl d_Label_offer_54 ?_
      refine zz_topl (y := lN x) (hx0.trans (vw_c_in hxf)) ?_
      refine W.lcmp hx_ hb_ d_Label_offer_55 ?_
      refine lv_if_ne (tgt := 74) hx_ hb_ d_Label_offer_56 (by decide) (fun h56 => ?_) (fun h56 => ?_)
      · have h56 : ¬ ((lN (b + pr)) = (lN x)) := fun x => h56 ((lg_cmp_eq _ _).mpr x)
        rw [pk_lEQ (by omega) (by omega)] at h56
        exact J74   _ _ _ (by omega) hZ (lv_sub hl [2, 3, 4, 5, 1, 0] rfl)
      · have h56 : (lN (b + pr)) = (lN x) := (lg_cmp_eq _ _).mp h56
        rw [pk_lEQ (by omega) (by omega)] at h56
        refine lv_iload_n hx_ hb_ d_Label_offer_59 rfl (lv_at hl 4 rfl) ?_
        refine lv_aload_n hx_ hb_ d_Label_offer_60 rfl (lv_at hl 2 rfl) ?_
        refine zz_get hC hK hZ (42 + 3 * j) 1 (by show _ < 291; omega) (xy_lab q j _ _) rfl hin_Label (by decide) wd_106 rfl rfl d_Label_offer_61 ?_
        refine lv_iload hx_ hb_ d_Label_offer_64 (lv_at hl 1 rfl) ?_
        refine zz_iald hC hK hZ (42 + 3 * j + 2) 0 kd (by show _ < 291; omega) (xy_choi q j _ _) rfl rfl (by omega) (by decide) rfl d_Label_offer_66 ?_
        refine zz_topi (y := nI y) (hy hxf).1 ?_
        refine zz_jge (tgt := 74) hC d_Label_offer_67 (by decide) (by omega) (by omega) (fun h67 => ?_) (fun h67 => ?_)
        · exact J74   _ _ _ (by omega) hZ (lv_sub hl [2, 3, 4, 5, 1, 0] rfl)
        · exact J70   _ _ _ (by first | (have h0 := vw_c_m1 h30; omega) | omega) hZ (lv_sub hl [2, 3, 4, 5, 1, 0] rfl)
end
section
/-! The rules in the class's cells, and the turns over them. -/
def xb_ok (S : zz_S) (rl : mx_R) (R : Nat) (sz : Nat → Nat) (nb : Nat → Nat → Nat) : Prop :=
  S.1 1 7 = nI R ∧ R ≤ 24 ∧ mx_ok rl R ∧ (∀ r, r < R → S.1 2 r = nI (rl r).1 ∧ S.1 3 r = nI (rl r).2.1 ∧ S.1 4 r = nI (rl r).2.2.1 ∧ S.1 5 r = nI (rl r).2.2.2.1 ∧ S.1 6 r = nI (rl r).2.2.2.2) ∧
  (∀ o, o < 9 → S.1 8 o = nI (sz o) ∧ sz o ≤ R ∧ (∀ i, i < sz o → S.1 (9 + o) i = nI (nb o i) ∧ nb o i < R ∧ (rl (nb o i)).2.1 = o ∧ ∀ i', i' < i → nb o i' < nb o i) ∧ ∀ r, r < R → (rl r).2.1 = o → ∃ i, i < sz o ∧ nb o i = r)
def xb_bd (R : Nat) (sz : Nat → Nat) (nb : Nat → Nat → Nat) (o i : Nat) : Nat := if i < sz o then nb o i else R
theorem xb_keep {S S1 : zz_S} {rl : mx_R} {R : Nat} {sz : Nat → Nat} {nb : Nat → Nat → Nat} (h : xb_ok S rl R sz nb) (hk : ∀ c, 1 ≤ c → c < 18 → S1.1 c = S.1 c) : xb_ok S1 rl R sz nb := by
  obtain ⟨h1, h2, h3, h4, h5⟩ := h
  refine ⟨by rw [hk 1 (by omega) (by omega)]; exact h1, h2, h3, fun r hr => ?_, fun o ho => ?_⟩
  · rw [hk 2 (by omega) (by omega), hk 3 (by omega) (by omega), hk 4 (by omega) (by omega), hk 5 (by omega) (by omega), hk 6 (by omega) (by omega)]
    exact h4 r hr
  · rw [hk 8 (by omega) (by omega), hk (9 + o) (by omega) (by omega)]
    exact h5 o ho
theorem xb_off {S S1 : zz_S} {rl : mx_R} {R j : Nat} {sz : Nat → Nat} {nb : Nat → Nat → Nat} (h : xb_ok S rl R sz nb) (ho : zz_off (xl_X j) S S1) : xb_ok S1 rl R sz nb :=
  xb_keep h (fun c _ h2 => (ho c (fun hx => by rcases hx with hx | hx <;> omega)).1)
section XB
variable {S : zz_S} {rl : mx_R} {R o o' : Nat} {sz lf rt : Nat → Nat} {nb : Nat → Nat → Nat} {s0 : (Nat → Nat) × (Nat → Nat)}
theorem xb_first (h : xb_ok S rl R sz nb) (ho : o < 9) : mp_sw rl o' lf rt (mp_po rl o) s0 (xb_bd R sz nb o 0) = s0 := by
  obtain ⟨h1, h2, h3, h4⟩ := h.2.2.2.2 o ho
  refine (mp_sw_skip (Nat.zero_le _) (fun r _ hr => ?_)).trans rfl
  rw [mp_po]
  refine decide_eq_false (fun he => ?_)
  have hb : xb_bd R sz nb o 0 ≤ R := by
    unfold xb_bd
    split
    · rename_i h0
      exact Nat.le_of_lt (h3 0 h0).2.1
    · exact Nat.le_refl _
  obtain ⟨i, hi, e⟩ := h4 r (by omega) he
  rw [xb_bd, if_pos (show 0 < sz o by omega)] at hr
  by_cases e0 : i = 0
  · rw [e0] at e
    omega
  · have := (h3 i hi).2.2.2 0 (by omega)
    omega
theorem xb_next (h : xb_ok S rl R sz nb) (ho : o < 9) {i : Nat} (hi : i < sz o) : mp_sw rl o' lf rt (mp_po rl o) s0 (xb_bd R sz nb o (i + 1)) = mp_sw rl o' lf rt (mp_po rl o) s0 (nb o i + 1) := by
  obtain ⟨h1, h2, h3, h4⟩ := h.2.2.2.2 o ho
  have hlt : nb o i + 1 ≤ xb_bd R sz nb o (i + 1) ∧ xb_bd R sz nb o (i + 1) ≤ R := by
    unfold xb_bd
    split
    · rename_i h0
      have a1 := (h3 (i + 1) h0).2.2.2 i (by omega)
      have a2 := (h3 (i + 1) h0).2.1
      omega
    · have a2 := (h3 i hi).2.1
      omega
  refine mp_sw_skip hlt.1 (fun r hr1 hr2 => ?_)
  rw [mp_po]
  refine decide_eq_false (fun he => ?_)
  obtain ⟨i', hi', e⟩ := h4 r (by omega) he
  rcases Nat.lt_trichotomy i' i with h | h | h
  · have := (h3 i hi).2.2.2 i' h
    omega
  · rw [h] at e
    omega
  · rw [xb_bd, if_pos (show i + 1 < sz o by omega)] at hr2
    by_cases e1 : i' = i + 1
    · rw [e1] at e
      omega
    · have := (h3 i' hi').2.2.2 (i + 1) (by omega)
      omega
theorem xb_last {i : Nat} (hi : ¬ i < sz o) : xb_bd R sz nb o i = R := if_neg hi
theorem xb_at {i : Nat} (hi : i < sz o) : xb_bd R sz nb o i = nb o i := if_pos hi
/-- the costs stay far below 'no cover' in the turns -/
theorem xb_bnd {P : Nat → Bool} {B M : Nat} (hok : mx_ok rl R) (hl : ∀ k, k < 4 → lf k < mx_far → lf k ≤ M) (hr : ∀ k, k < 4 → rt k < mx_far → rt k ≤ M) (h0 : ∀ k, k < 4 → s0.1 k < mx_far → s0.1 k ≤ B) (hB : 2 * M + 9 ≤ B) (n : Nat) (hn : n ≤ R) : ∀ k, k < 4 → (mp_sw rl o lf rt P s0 n).1 k < mx_far → (mp_sw rl o lf rt P s0 n).1 k ≤ B + 9 * n := by
  induction n with
  | zero => exact h0
  | succ n ih =>
    have ih := ih (by omega)
    intro k hk hf
    rw [mp_sw] at hf ⊢
    split
    · rename_i hc
      rw [if_pos hc] at hf
      have hf : va_up (mp_sw rl o lf rt P s0 n).1 (rl n).1 (mx_th rl o lf rt (mp_sw rl o lf rt P s0 n).1 n) k < mx_far := hf
      show va_up (mp_sw rl o lf rt P s0 n).1 (rl n).1 (mx_th rl o lf rt (mp_sw rl o lf rt P s0 n).1 n) k ≤ _
      by_cases e : k = (rl n).1
      · rw [e, mp_up_s] at hf ⊢
        have hb := hok n (by omega)
        have hp := hb.2.2.2.2.1
        by_cases h8 : (rl n).2.1 = 8
        · rw [mx_th_ch h8] at hf ⊢
          have := ih _ hb.2.2.1 (by omega)
          omega
        · by_cases ho : (rl n).2.1 = o
          · rw [mx_th, if_neg h8, if_pos ho] at hf ⊢
            have a1 := hl _ hb.2.2.1
            have a2 := hr _ hb.2.2.2.1
            split at hf <;> split at hf <;> (rename_i c1 c2; first | rw [if_pos c1] | rw [if_neg c1]) <;> (first | rw [if_pos c2] | rw [if_neg c2]) <;> omega
          · rw [mx_th, if_neg h8, if_neg ho] at hf
            omega
      · rw [mp_up_n e] at hf ⊢
        have := ih k hk hf
        omega
    · rename_i hc
      rw [if_neg hc] at hf
      have := ih k hk hf
      omega
theorem xb_bndC {M : Nat} (hok : mx_ok rl R) (hR : R ≤ 24) (hl : ∀ k, k < 4 → lf k < mx_far → lf k ≤ M) (hr : ∀ k, k < 4 → rt k < mx_far → rt k ≤ M) (t : Nat) : ∀ k, k < 4 → (mp_C rl R o lf rt t).1 k < mx_far → (mp_C rl R o lf rt t).1 k ≤ 2 * M + 9 + 216 * (t + 1) := by
  induction t with
  | zero =>
    intro k hk hf
    have := xb_bnd (s0 := mp_s0) (P := mp_po rl o) (B := 2 * M + 9) hok hl hr (fun k _ h => absurd h (Nat.lt_irrefl _)) (Nat.le_refl _) R (Nat.le_refl R) k hk hf
    show (mp_sw rl o lf rt (mp_po rl o) mp_s0 R).1 k ≤ _
    omega
  | succ t ih =>
    intro k hk hf
    have := xb_bnd (s0 := mp_C rl R o lf rt t) (P := mp_po rl 8) (B := 2 * M + 9 + 216 * (t + 1)) hok hl hr ih (by omega) R (Nat.le_refl R) k hk hf
    show (mp_sw rl o lf rt (mp_po rl 8) (mp_C rl R o lf rt t) R).1 k ≤ _
    omega
end XB
end
section
/-! Labels: least costs, relative costs, comparisons, the turns. Laid by wip/whole/prog/p4.py. -/
set_option maxHeartbeats 4000000 in
set_option maxRecDepth 100000 in
theorem c_Label_leastCost (l : Launch) (q : xg_T) (S : zz_S) (j : Nat) (g : Nat → Nat) (hj : j ≤ 82) (hg : ∀ k, k < 4 → S.2 (42 + 3 * j + 1) k = vw_c (g k) ∧ g k ≤ mx_far) : Met l y_Label_leastCost (Cond.code y_Label_leastCost b_Label_leastCost 4 (some .long) :: zz_tbl) rm_Label_leastCost (zz_Pc [.ref (zz_ad (xg_G q) (42 + 3 * j))] (xg_G q) S) (va_Ql (fun ans S1 => S = S1 ∧ ans = vw_c (xl_lo g 4)) (zz_P (xg_G q)) (zz_A (xg_G q))) 0 0 (zz_A (xg_G q)) := by
  refine zz_met (by decide) (Nat.le_of_ble_eq_true rfl) ?_
  intro p_ e_ s_ m_ bl_ mt_ c_ ls hC hK hZ hl
  have hC : zz_C p_ s_ m_ _ mt_ c_ b_Label_leastCost 4 (some .long) "TreeCoverForge$Label" := hC
  have hx_ := hC.1
  have hb_ := hC.2.1
  have hl : lv_has ls 4 [(0, .ref (zz_ad (xg_G q) (42 + 3 * j)))] := hl
  have hfar := vw_far
  have L6_ : ∀ (n_ : Nat) (k : Nat) (v : Int64) (H : Heap) (locs : List Loc) (ls : Array Slot) (hk : k ≤ 4) (hv : v = vw_c (xl_lo g k)) (hZ : zz_Z (xg_G q) S s_.heap H locs) (hl : lv_has ls 4 [(0, .ref (zz_ad (xg_G q) (42 + 3 * j))), (1, .long v), (3, .int (nI k))]) (hn_ : 4 - k = n_), W p_ l e_ rm_Label_leastCost s_ m_ ([.ref (zz_ad (xg_G q) (42 + 3 * j))] : List Value).toArray bl_ mt_ c_ H locs 0 0 (MQ bl_ (va_Ql (fun ans S1 => S = S1 ∧ ans = vw_c (xl_lo g 4)) (zz_P (xg_G q)) (zz_A (xg_G q))) ([.ref (zz_ad (xg_G q) (42 + 3 * j))] : List Value).toArray s_ 0 0 (zz_A (xg_G q))) (F0 m_ 6 ls []) := by
    intro n_
    induction n_ using Nat.strongRecOn with
    | ind n_ ih_ =>
      intro k v H locs ls hk hv hZ hl hn_
      refine lv_iload_n hx_ hb_ d_Label_leastCost_6 rfl (lv_at hl 2 rfl) ?_
      refine lv_iconst (v := nI 4) hx_ hb_ d_Label_leastCost_7 (by decide) ?_
      refine zz_jge (tgt := 51) hC d_Label_leastCost_8 (by decide) (by omega) (by omega) (fun h8 => ?_) (fun h8 => ?_)
      · refine lv_lload_n hx_ hb_ d_Label_leastCost_51 rfl (lv_at hl 1 rfl) ?_
        exact zz_lret hC hK hZ rfl d_Label_leastCost_52 ⟨rfl, by rw [hv, show k = 4 by omega]⟩
      · refine lv_aload_n hx_ hb_ d_Label_leastCost_11 rfl (lv_at hl 0 rfl) ?_
        refine lv_iload_n hx_ hb_ d_Label_leastCost_12 rfl (lv_at hl 2 rfl) ?_
        refine zz_ci (zz_rV (As := [.int (nI k)]) (rest := []) hC hK hZ (42 + 3 * j) (c_Label_isCovered l q S j k (g k) hj (by omega) (hg k (by omega)).1) k_Label_isCovered (by show _ < 291; omega) (xy_lab q j _ _) rfl wd_303 ⟨rfl, rfl, by decide, by decide⟩ rfl hl.1 rfl (Nat.le_of_ble_eq_true rfl) d_Label_leastCost_13 ⟨Nat.zero_le _, Nat.zero_le _⟩) hZ (fun r13 S13 H locs hp13 hZ => ?_)
        obtain ⟨rfl, rfl⟩ := hp13
        refine zz_beq (tgt := 45) hC d_Label_leastCost_16 (by decide) (fun h16 => ?_) (fun h16 => ?_)
        · refine lv_iinc (k := 2) (v := nI (k + 1)) (lv' := [(3, .int (nI (k + 1))), (0, .ref (zz_ad (xg_G q) (42 + 3 * j))), (1, .long v)]) hx_ hb_ d_Label_leastCost_45 hl rfl (nI_add _ 1) (by decide) rfl (fun ls hl => ?_)
          refine lv_goto (tgt := 6) hx_ hb_ d_Label_leastCost_48 (by decide) ?_
          exact ih_ _ (by omega) (k + 1) v  _ _ _ (by omega) (by rw [hv, show xl_lo g (k + 1) = xl_lo g k from by
                      show min (xl_lo g k) (g k) = xl_lo g k
                      have := xl_lo_le g k
                      omega]) hZ (lv_sub hl [1, 2, 0] rfl) rfl
        · refine lv_lload_n hx_ hb_ d_Label_leastCost_19 rfl (lv_at hl 1 rfl) ?_
          refine lv_ldc2 (v := (-1)) hx_ hb_ hC.2.2.2.1 (hC.2.2.2.2.1 _ wd_298) d_Label_leastCost_20 ?_
          refine W.lcmp hx_ hb_ d_Label_leastCost_23 ?_
          refine lv_if_eq (tgt := 38) hx_ hb_ d_Label_leastCost_24 (by decide) (fun h24 => ?_) (fun h24 => ?_)
          · have h24 : v = ((-1)) := (lg_cmp_eq _ _).mp h24
            refine lv_aload_n hx_ hb_ d_Label_leastCost_38 rfl (lv_at hl 0 rfl) ?_
            refine zz_get hC hK hZ (42 + 3 * j) 0 (by show _ < 291; omega) (xy_lab q j _ _) rfl hin_Label (by decide) wd_104 rfl rfl d_Label_leastCost_39 ?_
            refine lv_iload_n hx_ hb_ d_Label_leastCost_42 rfl (lv_at hl 2 rfl) ?_
            refine zz_lald hC hK hZ (42 + 3 * j + 1) 1 k (by show _ < 291; omega) (xy_cost q j _ _) rfl rfl (by omega) (by decide) rfl d_Label_leastCost_43 ?_
            refine zz_topl (y := vw_c (g k)) (hg k (by omega)).1 ?_
            refine lv_lstore_n (i := 1) (lv' := [(1, .long (vw_c (g k))), (0, .ref (zz_ad (xg_G q) (42 + 3 * j))), (3, .int (nI k))]) hx_ hb_ d_Label_leastCost_44 rfl hl (by decide) rfl (fun ls hl => ?_)
            refine lv_iinc (k := 2) (v := nI (k + 1)) (lv' := [(3, .int (nI (k + 1))), (1, .long (vw_c (g k))), (0, .ref (zz_ad (xg_G q) (42 + 3 * j)))]) hx_ hb_ d_Label_leastCost_45 hl rfl (nI_add _ 1) (by decide) rfl (fun ls hl => ?_)
            refine lv_goto (tgt := 6) hx_ hb_ d_Label_leastCost_48 (by decide) ?_
            exact ih_ _ (by omega) (k + 1) (vw_c (g k))  _ _ _ (by omega) (by rw [show xl_lo g (k + 1) = g k from by
                        show min (xl_lo g k) (g k) = g k
                        have := (hg k (by omega)).2
                        first | (have hlo0 := vw_c_m1 (hv.symm.trans h24); omega) | omega]) hZ (lv_sub hl [2, 1, 0] rfl) rfl
          · have h24 : ¬ (v = ((-1))) := fun x => h24 ((lg_cmp_eq _ _).mpr x)
            have hlo : xl_lo g k < mx_far := vw_c_n1 (by rw [← hv]; exact h24)
            refine lv_aload_n hx_ hb_ d_Label_leastCost_27 rfl (lv_at hl 0 rfl) ?_
            refine zz_get hC hK hZ (42 + 3 * j) 0 (by show _ < 291; omega) (xy_lab q j _ _) rfl hin_Label (by decide) wd_104 rfl rfl d_Label_leastCost_28 ?_
            refine lv_iload_n hx_ hb_ d_Label_leastCost_31 rfl (lv_at hl 2 rfl) ?_
            refine zz_lald hC hK hZ (42 + 3 * j + 1) 1 k (by show _ < 291; omega) (xy_cost q j _ _) rfl rfl (by omega) (by decide) rfl d_Label_leastCost_32 ?_
            refine zz_topl (y := lN (g k)) ((hg k (by omega)).1.trans (vw_c_in h16)) ?_
            refine lv_lload_n hx_ hb_ d_Label_leastCost_33 rfl (lv_at hl 1 rfl) ?_
            refine zz_topl (y := lN (xl_lo g k)) (hv.trans (vw_c_in hlo)) ?_
            refine W.lcmp hx_ hb_ d_Label_leastCost_34 ?_
            refine lv_if_ge (tgt := 45) hx_ hb_ d_Label_leastCost_35 (by decide) (fun h35 => ?_) (fun h35 => ?_)
            · have h35 : (lN (xl_lo g k)) ≤ (lN (g k)) := (lg_cmp_ge _ _).mp h35
              rw [pk_lLE (by omega) (by omega)] at h35
              refine lv_iinc (k := 2) (v := nI (k + 1)) (lv' := [(3, .int (nI (k + 1))), (0, .ref (zz_ad (xg_G q) (42 + 3 * j))), (1, .long v)]) hx_ hb_ d_Label_leastCost_45 hl rfl (nI_add _ 1) (by decide) rfl (fun ls hl => ?_)
              refine lv_goto (tgt := 6) hx_ hb_ d_Label_leastCost_48 (by decide) ?_
              exact ih_ _ (by omega) (k + 1) v  _ _ _ (by omega) (by rw [hv, show xl_lo g (k + 1) = xl_lo g k from by
                          show min (xl_lo g k) (g k) = xl_lo g k
                          have := xl_lo_le g k
                          omega]) hZ (lv_sub hl [1, 2, 0] rfl) rfl
            · have h35 : ¬ ((lN (xl_lo g k)) ≤ (lN (g k))) := fun x => h35 ((lg_cmp_ge _ _).mpr x)
              rw [pk_lLE (by omega) (by omega)] at h35
              refine lv_aload_n hx_ hb_ d_Label_leastCost_38 rfl (lv_at hl 0 rfl) ?_
              refine zz_get hC hK hZ (42 + 3 * j) 0 (by show _ < 291; omega) (xy_lab q j _ _) rfl hin_Label (by decide) wd_104 rfl rfl d_Label_leastCost_39 ?_
              refine lv_iload_n hx_ hb_ d_Label_leastCost_42 rfl (lv_at hl 2 rfl) ?_
              refine zz_lald hC hK hZ (42 + 3 * j + 1) 1 k (by show _ < 291; omega) (xy_cost q j _ _) rfl rfl (by omega) (by decide) rfl d_Label_leastCost_43 ?_
              refine zz_topl (y := vw_c (g k)) (hg k (by omega)).1 ?_
              refine lv_lstore_n (i := 1) (lv' := [(1, .long (vw_c (g k))), (0, .ref (zz_ad (xg_G q) (42 + 3 * j))), (3, .int (nI k))]) hx_ hb_ d_Label_leastCost_44 rfl hl (by decide) rfl (fun ls hl => ?_)
              refine lv_iinc (k := 2) (v := nI (k + 1)) (lv' := [(3, .int (nI (k + 1))), (1, .long (vw_c (g k))), (0, .ref (zz_ad (xg_G q) (42 + 3 * j)))]) hx_ hb_ d_Label_leastCost_45 hl rfl (nI_add _ 1) (by decide) rfl (fun ls hl => ?_)
              refine lv_goto (tgt := 6) hx_ hb_ d_Label_leastCost_48 (by decide) ?_
              exact ih_ _ (by omega) (k + 1) (vw_c (g k))  _ _ _ (by omega) (by rw [show xl_lo g (k + 1) = g k from by
                          show min (xl_lo g k) (g k) = g k
                          have := (hg k (by omega)).2
                          first | (have hlo0 := vw_c_m1 (hv.symm.trans h24); omega) | omega]) hZ (lv_sub hl [2, 1, 0] rfl) rfl
  have L6 : ∀ (k : Nat) (v : Int64) (H : Heap) (locs : List Loc) (ls : Array Slot) (hk : k ≤ 4) (hv : v = vw_c (xl_lo g k)) (hZ : zz_Z (xg_G q) S s_.heap H locs) (hl : lv_has ls 4 [(0, .ref (zz_ad (xg_G q) (42 + 3 * j))), (1, .long v), (3, .int (nI k))]), W p_ l e_ rm_Label_leastCost s_ m_ ([.ref (zz_ad (xg_G q) (42 + 3 * j))] : List Value).toArray bl_ mt_ c_ H locs 0 0 (MQ bl_ (va_Ql (fun ans S1 => S = S1 ∧ ans = vw_c (xl_lo g 4)) (zz_P (xg_G q)) (zz_A (xg_G q))) ([.ref (zz_ad (xg_G q) (42 + 3 * j))] : List Value).toArray s_ 0 0 (zz_A (xg_G q))) (F0 m_ 6 ls []) := fun k v H locs ls hk hv hZ hl => L6_ _ k v H locs ls hk hv hZ hl rfl
  refine lv_ldc2 (v := (-1)) hx_ hb_ hC.2.2.2.1 (hC.2.2.2.2.1 _ wd_298) d_Label_leastCost_0 ?_
  refine lv_lstore_n (i := 1) (lv' := [(1, .long ((-1))), (0, .ref (zz_ad (xg_G q) (42 + 3 * j)))]) hx_ hb_ d_Label_leastCost_3 rfl hl (by decide) rfl (fun ls hl => ?_)
  refine lv_iconst (v := nI 0) hx_ hb_ d_Label_leastCost_4 (by decide) ?_
  refine lv_istore_n (i := 3) (lv' := [(3, .int (nI 0)), (1, .long ((-1))), (0, .ref (zz_ad (xg_G q) (42 + 3 * j)))]) hx_ hb_ d_Label_leastCost_5 rfl hl (by decide) rfl (fun ls hl => ?_)
  exact L6 0 ((-1))  _ _ _ (by omega) rfl hZ (lv_sub hl [2, 1, 0] rfl)
set_option maxHeartbeats 4000000 in
set_option maxRecDepth 100000 in
theorem c_Label_makeRelative (l : Launch) (q : xg_T) (S : zz_S) (j : Nat) (g : Nat → Nat) (hj : j ≤ 82) (hg : ∀ k, k < 4 → S.2 (42 + 3 * j + 1) k = vw_c (g k) ∧ g k ≤ mx_far) : Met l y_Label_makeRelative (Cond.code y_Label_makeRelative b_Label_makeRelative 4 none :: zz_tbl) rm_Label_makeRelative (zz_Pc [.ref (zz_ad (xg_G q) (42 + 3 * j))] (xg_G q) S) (va_Qv (fun S1 => zz_off (fun c => c = 42 + 3 * j + 1) S S1 ∧ ∀ k, k < 4 → S1.2 (42 + 3 * j + 1) k = vw_c (ns_nrm g k)) (zz_P (xg_G q)) (zz_A (xg_G q))) 0 0 (zz_A (xg_G q)) := by
  refine zz_met (by decide) (Nat.le_of_ble_eq_true rfl) ?_
  intro p_ e_ s_ m_ bl_ mt_ c_ ls hC hK hZ hl
  have hC : zz_C p_ s_ m_ _ mt_ c_ b_Label_makeRelative 4 none "TreeCoverForge$Label" := hC
  have hx_ := hC.1
  have hb_ := hC.2.1
  have hl : lv_has ls 4 [(0, .ref (zz_ad (xg_G q) (42 + 3 * j)))] := hl
  have hfar := vw_far
  have hlo := xl_lo4 (fun k hk => (hg k hk).2)
  have L7_ : ∀ (n_ : Nat) (k : Nat) (Sk : zz_S) (H : Heap) (locs : List Loc) (ls : Array Slot) (hk : k ≤ 4) (ho : zz_off (fun c => c = 42 + 3 * j + 1) S Sk) (hs : ∀ i, i < 4 → Sk.2 (42 + 3 * j + 1) i = vw_c (if i < k then ns_nrm g i else g i)) (hZ : zz_Z (xg_G q) Sk s_.heap H locs) (hl : lv_has ls 4 [(0, .ref (zz_ad (xg_G q) (42 + 3 * j))), (1, .long (vw_c (xl_lo g 4))), (3, .int (nI k))]) (hn_ : 4 - k = n_), W p_ l e_ rm_Label_makeRelative s_ m_ ([.ref (zz_ad (xg_G q) (42 + 3 * j))] : List Value).toArray bl_ mt_ c_ H locs 0 0 (MQ bl_ (va_Qv (fun S1 => zz_off (fun c => c = 42 + 3 * j + 1) S S1 ∧ ∀ k, k < 4 → S1.2 (42 + 3 * j + 1) k = vw_c (ns_nrm g k)) (zz_P (xg_G q)) (zz_A (xg_G q))) ([.ref (zz_ad (xg_G q) (42 + 3 * j))] : List Value).toArray s_ 0 0 (zz_A (xg_G q))) (F0 m_ 7 ls []) := by
    intro n_
    induction n_ using Nat.strongRecOn with
    | ind n_ ih_ =>
      intro k Sk H locs ls hk ho hs hZ hl hn_
      refine lv_iload_n hx_ hb_ d_Label_makeRelative_7 rfl (lv_at hl 2 rfl) ?_
      refine lv_iconst (v := nI 4) hx_ hb_ d_Label_makeRelative_8 (by decide) ?_
      refine zz_jge (tgt := 36) hC d_Label_makeRelative_9 (by decide) (by omega) (by omega) (fun h9 => ?_) (fun h9 => ?_)
      · exact zz_vret hC hK hZ rfl d_Label_makeRelative_36 ⟨ho, fun k hk => by rw [hs k hk, if_pos (by omega)]⟩
      · have hk1 : Sk.2 (42 + 3 * j + 1) k = vw_c (g k) := by
          rw [hs k (by omega), if_neg (Nat.lt_irrefl k)]
        refine lv_aload_n hx_ hb_ d_Label_makeRelative_12 rfl (lv_at hl 0 rfl) ?_
        refine lv_iload_n hx_ hb_ d_Label_makeRelative_13 rfl (lv_at hl 2 rfl) ?_
        refine zz_ci (zz_rV (As := [.int (nI k)]) (rest := []) hC hK hZ (42 + 3 * j) (c_Label_isCovered l q Sk j k (g k) hj (by omega) hk1) k_Label_isCovered (by show _ < 291; omega) (xy_lab q j _ _) rfl wd_303 ⟨rfl, rfl, by decide, by decide⟩ rfl hl.1 rfl (Nat.le_of_ble_eq_true rfl) d_Label_makeRelative_14 ⟨Nat.zero_le _, Nat.zero_le _⟩) hZ (fun r14 S14 H locs hp14 hZ => ?_)
        obtain ⟨rfl, rfl⟩ := hp14
        refine zz_beq (tgt := 30) hC d_Label_makeRelative_17 (by decide) (fun h17 => ?_) (fun h17 => ?_)
        · refine lv_iinc (k := 2) (v := nI (k + 1)) (lv' := [(3, .int (nI (k + 1))), (0, .ref (zz_ad (xg_G q) (42 + 3 * j))), (1, .long (vw_c (xl_lo g 4)))]) hx_ hb_ d_Label_makeRelative_30 hl rfl (nI_add _ 1) (by decide) rfl (fun ls hl => ?_)
          refine lv_goto (tgt := 7) hx_ hb_ d_Label_makeRelative_33 (by decide) ?_
          exact ih_ _ (by omega) (k + 1) Sk  _ _ _ (by omega) ho (fun i hi => by
                      rw [hs i hi]
                      by_cases e2 : i < k
                      · rw [if_pos e2, if_pos (by omega)]
                      · rw [if_neg e2]
                        by_cases e : i = k
                        · rw [e, if_pos (Nat.lt_succ_self k), ns_nrm, if_neg h17, vw_c_out h17, vw_c_out (Nat.lt_irrefl _)]
                        · rw [if_neg (by omega)]) hZ (lv_sub hl [1, 2, 0] rfl) rfl
        · have hlk : ns_low g ≤ g k := by
            have hc : k = 0 ∨ k = 1 ∨ k = 2 ∨ k = 3 := by omega
            unfold ns_low
            rcases hc with rfl | rfl | rfl | rfl <;> omega
          refine lv_aload_n hx_ hb_ d_Label_makeRelative_20 rfl (lv_at hl 0 rfl) ?_
          refine zz_get hC hK hZ (42 + 3 * j) 0 (by show _ < 291; omega) (xy_lab q j _ _) rfl hin_Label (by decide) wd_104 rfl rfl d_Label_makeRelative_21 ?_
          refine lv_iload_n hx_ hb_ d_Label_makeRelative_24 rfl (lv_at hl 2 rfl) ?_
          refine lv_dup2_11 hx_ hb_ d_Label_makeRelative_25 rfl rfl ?_
          refine zz_lald hC hK hZ (42 + 3 * j + 1) 1 k (by show _ < 291; omega) (xy_cost q j _ _) rfl rfl (by omega) (by decide) rfl d_Label_makeRelative_26 ?_
          refine zz_topl (y := lN (g k)) (hk1.trans (vw_c_in h17)) ?_
          refine lv_lload_n hx_ hb_ d_Label_makeRelative_27 rfl (lv_at hl 1 rfl) ?_
          refine zz_topl (y := lN (ns_low g)) (by rw [hlo, vw_c_in (by omega)]) ?_
          refine lv_lsub hx_ hb_ d_Label_makeRelative_28 ?_
          refine zz_topl (y := lN (g k - ns_low g)) (lN_sub hlk) ?_
          refine zz_last hC hK hZ (42 + 3 * j + 1) 1 k (by show _ < 291; omega) (fun _ => xy_cost q j _ _) rfl rfl (by omega) (by decide) d_Label_makeRelative_29 (fun H locs hZ => ?_)
          refine lv_iinc (k := 2) (v := nI (k + 1)) (lv' := [(3, .int (nI (k + 1))), (0, .ref (zz_ad (xg_G q) (42 + 3 * j))), (1, .long (vw_c (xl_lo g 4)))]) hx_ hb_ d_Label_makeRelative_30 hl rfl (nI_add _ 1) (by decide) rfl (fun ls hl => ?_)
          refine lv_goto (tgt := 7) hx_ hb_ d_Label_makeRelative_33 (by decide) ?_
          exact ih_ _ (by omega) (k + 1) (zz_v Sk (42 + 3 * j + 1) k (lN (g k - ns_low g)))  _ _ _ (by omega) (zz_off_tr ho (fun d hd => ⟨rfl, zz_v2 Sk _ k _ d hd⟩)) (fun i hi => by
                      rw [zz_v2s]
                      by_cases e : i = k
                      · rw [e, pk_uLs, if_pos (Nat.lt_succ_self k), ns_nrm, if_pos h17, vw_c_in (by omega)]
                      · rw [pk_uLn e, hs i hi]
                        by_cases e2 : i < k
                        · rw [if_pos e2, if_pos (by omega)]
                        · rw [if_neg e2, if_neg (by omega)]) hZ (lv_sub hl [1, 2, 0] rfl) rfl
  have L7 : ∀ (k : Nat) (Sk : zz_S) (H : Heap) (locs : List Loc) (ls : Array Slot) (hk : k ≤ 4) (ho : zz_off (fun c => c = 42 + 3 * j + 1) S Sk) (hs : ∀ i, i < 4 → Sk.2 (42 + 3 * j + 1) i = vw_c (if i < k then ns_nrm g i else g i)) (hZ : zz_Z (xg_G q) Sk s_.heap H locs) (hl : lv_has ls 4 [(0, .ref (zz_ad (xg_G q) (42 + 3 * j))), (1, .long (vw_c (xl_lo g 4))), (3, .int (nI k))]), W p_ l e_ rm_Label_makeRelative s_ m_ ([.ref (zz_ad (xg_G q) (42 + 3 * j))] : List Value).toArray bl_ mt_ c_ H locs 0 0 (MQ bl_ (va_Qv (fun S1 => zz_off (fun c => c = 42 + 3 * j + 1) S S1 ∧ ∀ k, k < 4 → S1.2 (42 + 3 * j + 1) k = vw_c (ns_nrm g k)) (zz_P (xg_G q)) (zz_A (xg_G q))) ([.ref (zz_ad (xg_G q) (42 + 3 * j))] : List Value).toArray s_ 0 0 (zz_A (xg_G q))) (F0 m_ 7 ls []) := fun k Sk H locs ls hk ho hs hZ hl => L7_ _ k Sk H locs ls hk ho hs hZ hl rfl
  refine lv_aload_n hx_ hb_ d_Label_makeRelative_0 rfl (lv_at hl 0 rfl) ?_
  refine zz_clg (zz_rV (As := []) (rest := []) hC hK hZ (42 + 3 * j) (c_Label_leastCost l q S j g hj hg) k_Label_leastCost (by show _ < 291; omega) (xy_lab q j _ _) rfl wd_319 ⟨rfl, rfl, by decide, by decide⟩ rfl hl.1 rfl (Nat.le_of_ble_eq_true rfl) d_Label_makeRelative_1 ⟨Nat.zero_le _, Nat.zero_le _⟩) hZ (fun r1 S1 H locs hp1 hZ => ?_)
  obtain ⟨rfl, rfl⟩ := hp1
  refine lv_lstore_n (i := 1) (lv' := [(1, .long (vw_c (xl_lo g 4))), (0, .ref (zz_ad (xg_G q) (42 + 3 * j)))]) hx_ hb_ d_Label_makeRelative_4 rfl hl (by decide) rfl (fun ls hl => ?_)
  refine lv_iconst (v := nI 0) hx_ hb_ d_Label_makeRelative_5 (by decide) ?_
  refine lv_istore_n (i := 3) (lv' := [(3, .int (nI 0)), (1, .long (vw_c (xl_lo g 4))), (0, .ref (zz_ad (xg_G q) (42 + 3 * j)))]) hx_ hb_ d_Label_makeRelative_6 rfl hl (by decide) rfl (fun ls hl => ?_)
  exact L7 0 S  _ _ _ (by omega) zz_off_rf (fun i hi => (hg i hi).1) hZ (lv_sub hl [2, 1, 0] rfl)
set_option maxHeartbeats 4000000 in
set_option maxRecDepth 100000 in
theorem c_Label_agreesWith (l : Launch) (q : xg_T) (S : zz_S) (j j2 : Nat) (g y g2 y2 : Nat → Nat) (hj : j ≤ 82) (hj2 : j2 ≤ 82) (hg : xl_ok S j g y) (hg2 : xl_ok S j2 g2 y2) (hb1 : ∀ k, k < 4 → g k ≤ mx_far ∧ g2 k ≤ mx_far ∧ y k ≤ 24 ∧ y2 k ≤ 24) : Met l y_Label_agreesWith (Cond.code y_Label_agreesWith b_Label_agreesWith 3 (some .boolean) :: zz_tbl) rm_Label_agreesWith (zz_Pc [.ref (zz_ad (xg_G q) (42 + 3 * j)), .ref (zz_ad (xg_G q) (42 + 3 * j2))] (xg_G q) S) (va_Qi (fun ans S1 => S = S1 ∧ ans = nI (if ns_tup g = ns_tup g2 ∧ ns_tup y = ns_tup y2 then 1 else 0)) (zz_P (xg_G q)) (zz_A (xg_G q))) 0 0 (zz_A (xg_G q)) := by
  refine zz_met (by decide) (Nat.le_of_ble_eq_true rfl) ?_
  intro p_ e_ s_ m_ bl_ mt_ c_ ls hC hK hZ hl
  have hC : zz_C p_ s_ m_ _ mt_ c_ b_Label_agreesWith 3 (some .boolean) "TreeCoverForge$Label" := hC
  have hx_ := hC.1
  have hb_ := hC.2.1
  have hl : lv_has ls 3 [(0, .ref (zz_ad (xg_G q) (42 + 3 * j))), (1, .ref (zz_ad (xg_G q) (42 + 3 * j2)))] := hl
  have L2_ : ∀ (n_ : Nat) (k : Nat) (H : Heap) (locs : List Loc) (ls : Array Slot) (hk : k ≤ 4) (hs : ∀ i, i < k → g i = g2 i ∧ y i = y2 i) (hZ : zz_Z (xg_G q) S s_.heap H locs) (hl : lv_has ls 3 [(0, .ref (zz_ad (xg_G q) (42 + 3 * j))), (1, .ref (zz_ad (xg_G q) (42 + 3 * j2))), (2, .int (nI k))]) (hn_ : 4 - k = n_), W p_ l e_ rm_Label_agreesWith s_ m_ ([.ref (zz_ad (xg_G q) (42 + 3 * j)), .ref (zz_ad (xg_G q) (42 + 3 * j2))] : List Value).toArray bl_ mt_ c_ H locs 0 0 (MQ bl_ (va_Qi (fun ans S1 => S = S1 ∧ ans = nI (if ns_tup g = ns_tup g2 ∧ ns_tup y = ns_tup y2 then 1 else 0)) (zz_P (xg_G q)) (zz_A (xg_G q))) ([.ref (zz_ad (xg_G q) (42 + 3 * j)), .ref (zz_ad (xg_G q) (42 + 3 * j2))] : List Value).toArray s_ 0 0 (zz_A (xg_G q))) (F0 m_ 2 ls []) := by
    intro n_
    induction n_ using Nat.strongRecOn with
    | ind n_ ih_ =>
      intro k H locs ls hk hs hZ hl hn_
      refine lv_iload_n hx_ hb_ d_Label_agreesWith_2 rfl (lv_at hl 2 rfl) ?_
      refine lv_iconst (v := nI 4) hx_ hb_ d_Label_agreesWith_3 (by decide) ?_
      refine zz_jge (tgt := 46) hC d_Label_agreesWith_4 (by decide) (by omega) (by omega) (fun h4 => ?_) (fun h4 => ?_)
      · refine lv_iconst (v := nI 1) hx_ hb_ d_Label_agreesWith_46 (by decide) ?_
        exact zz_zret hC hK hZ rfl d_Label_agreesWith_47 (by decide) ⟨rfl, by rw [if_pos ⟨ns_tup_eq (fun k hk => (hs k (by omega)).1), ns_tup_eq (fun k hk => (hs k (by omega)).2)⟩]⟩
      · refine lv_aload_n hx_ hb_ d_Label_agreesWith_7 rfl (lv_at hl 0 rfl) ?_
        refine zz_get hC hK hZ (42 + 3 * j) 0 (by show _ < 291; omega) (xy_lab q j _ _) rfl hin_Label (by decide) wd_104 rfl rfl d_Label_agreesWith_8 ?_
        refine lv_iload_n hx_ hb_ d_Label_agreesWith_11 rfl (lv_at hl 2 rfl) ?_
        refine zz_lald hC hK hZ (42 + 3 * j + 1) 1 k (by show _ < 291; omega) (xy_cost q j _ _) rfl rfl (by omega) (by decide) rfl d_Label_agreesWith_12 ?_
        refine zz_topl (y := vw_c (g k)) (hg k (by omega)).1 ?_
        refine lv_aload_n hx_ hb_ d_Label_agreesWith_13 rfl (lv_at hl 1 rfl) ?_
        refine zz_get hC hK hZ (42 + 3 * j2) 0 (by show _ < 291; omega) (xy_lab q j2 _ _) rfl hin_Label (by decide) wd_104 rfl rfl d_Label_agreesWith_14 ?_
        refine lv_iload_n hx_ hb_ d_Label_agreesWith_17 rfl (lv_at hl 2 rfl) ?_
        refine zz_lald hC hK hZ (42 + 3 * j2 + 1) 1 k (by show _ < 291; omega) (xy_cost q j2 _ _) rfl rfl (by omega) (by decide) rfl d_Label_agreesWith_18 ?_
        refine zz_topl (y := vw_c (g2 k)) (hg2 k (by omega)).1 ?_
        refine W.lcmp hx_ hb_ d_Label_agreesWith_19 ?_
        refine lv_if_ne (tgt := 38) hx_ hb_ d_Label_agreesWith_20 (by decide) (fun h20 => ?_) (fun h20 => ?_)
        · have h20 : ¬ ((vw_c (g k)) = (vw_c (g2 k))) := fun x => h20 ((lg_cmp_eq _ _).mpr x)
          refine lv_iconst (v := nI 0) hx_ hb_ d_Label_agreesWith_38 (by decide) ?_
          exact zz_zret hC hK hZ rfl d_Label_agreesWith_39 (by decide) ⟨rfl, by
                    rw [if_neg]
                    intro hh
                    have e1 := ns_tup_inj hh.1 k (by omega)
                    have e2 := ns_tup_inj hh.2 k (by omega)
                    first | exact h20 (by rw [e1]) | exact h35 (by rw [e2])⟩
        · have h20 : (vw_c (g k)) = (vw_c (g2 k)) := (lg_cmp_eq _ _).mp h20
          refine lv_aload_n hx_ hb_ d_Label_agreesWith_23 rfl (lv_at hl 0 rfl) ?_
          refine zz_get hC hK hZ (42 + 3 * j) 1 (by show _ < 291; omega) (xy_lab q j _ _) rfl hin_Label (by decide) wd_106 rfl rfl d_Label_agreesWith_24 ?_
          refine lv_iload_n hx_ hb_ d_Label_agreesWith_27 rfl (lv_at hl 2 rfl) ?_
          refine zz_iald hC hK hZ (42 + 3 * j + 2) 0 k (by show _ < 291; omega) (xy_choi q j _ _) rfl rfl (by omega) (by decide) rfl d_Label_agreesWith_28 ?_
          refine zz_topi (y := vw_p (y k)) (hg k (by omega)).2 ?_
          refine lv_aload_n hx_ hb_ d_Label_agreesWith_29 rfl (lv_at hl 1 rfl) ?_
          refine zz_get hC hK hZ (42 + 3 * j2) 1 (by show _ < 291; omega) (xy_lab q j2 _ _) rfl hin_Label (by decide) wd_106 rfl rfl d_Label_agreesWith_30 ?_
          refine lv_iload_n hx_ hb_ d_Label_agreesWith_33 rfl (lv_at hl 2 rfl) ?_
          refine zz_iald hC hK hZ (42 + 3 * j2 + 2) 0 k (by show _ < 291; omega) (xy_choi q j2 _ _) rfl rfl (by omega) (by decide) rfl d_Label_agreesWith_34 ?_
          refine zz_topi (y := vw_p (y2 k)) (hg2 k (by omega)).2 ?_
          refine zz_rjeq (tgt := 40) hC d_Label_agreesWith_35 (by decide) (fun h35 => ?_) (fun h35 => ?_)
          · refine lv_iinc (k := 2) (v := nI (k + 1)) (lv' := [(2, .int (nI (k + 1))), (0, .ref (zz_ad (xg_G q) (42 + 3 * j))), (1, .ref (zz_ad (xg_G q) (42 + 3 * j2)))]) hx_ hb_ d_Label_agreesWith_40 hl rfl (nI_add _ 1) (by decide) rfl (fun ls hl => ?_)
            refine lv_goto (tgt := 2) hx_ hb_ d_Label_agreesWith_43 (by decide) ?_
            exact ih_ _ (by omega) (k + 1)  _ _ _ (by omega) (fun i hi => by
                        by_cases e : i = k
                        · subst e
                          have hb2 := hb1 i (by omega)
                          exact ⟨vw_c_inj hb2.1 hb2.2.1 h20, vw_p_inj hb2.2.2.1 hb2.2.2.2 (Int32.toInt_inj.mp h35)⟩
                        · exact hs i (by omega)) hZ (lv_sub hl [1, 2, 0] rfl) rfl
          · refine lv_iconst (v := nI 0) hx_ hb_ d_Label_agreesWith_38 (by decide) ?_
            exact zz_zret hC hK hZ rfl d_Label_agreesWith_39 (by decide) ⟨rfl, by
                      rw [if_neg]
                      intro hh
                      have e1 := ns_tup_inj hh.1 k (by omega)
                      have e2 := ns_tup_inj hh.2 k (by omega)
                      first | exact h20 (by rw [e1]) | exact h35 (by rw [e2])⟩
  have L2 : ∀ (k : Nat) (H : Heap) (locs : List Loc) (ls : Array Slot) (hk : k ≤ 4) (hs : ∀ i, i < k → g i = g2 i ∧ y i = y2 i) (hZ : zz_Z (xg_G q) S s_.heap H locs) (hl : lv_has ls 3 [(0, .ref (zz_ad (xg_G q) (42 + 3 * j))), (1, .ref (zz_ad (xg_G q) (42 + 3 * j2))), (2, .int (nI k))]), W p_ l e_ rm_Label_agreesWith s_ m_ ([.ref (zz_ad (xg_G q) (42 + 3 * j)), .ref (zz_ad (xg_G q) (42 + 3 * j2))] : List Value).toArray bl_ mt_ c_ H locs 0 0 (MQ bl_ (va_Qi (fun ans S1 => S = S1 ∧ ans = nI (if ns_tup g = ns_tup g2 ∧ ns_tup y = ns_tup y2 then 1 else 0)) (zz_P (xg_G q)) (zz_A (xg_G q))) ([.ref (zz_ad (xg_G q) (42 + 3 * j)), .ref (zz_ad (xg_G q) (42 + 3 * j2))] : List Value).toArray s_ 0 0 (zz_A (xg_G q))) (F0 m_ 2 ls []) := fun k H locs ls hk hs hZ hl => L2_ _ k H locs ls hk hs hZ hl rfl
  refine lv_iconst (v := nI 0) hx_ hb_ d_Label_agreesWith_0 (by decide) ?_
  refine lv_istore_n (i := 2) (lv' := [(2, .int (nI 0)), (0, .ref (zz_ad (xg_G q) (42 + 3 * j))), (1, .ref (zz_ad (xg_G q) (42 + 3 * j2)))]) hx_ hb_ d_Label_agreesWith_1 rfl hl (by decide) rfl (fun ls hl => ?_)
  exact L2 0  _ _ _ (by omega) (fun i hi => absurd hi (Nat.not_lt_zero i)) hZ (lv_sub hl [1, 2, 0] rfl)
end
section
/-! The turns over the rules of one operator, rule by rule, as the class's loops go. -/
def xb_s (rl : mx_R) (R o : Nat) (lf rt : Nat → Nat) (sz : Nat → Nat) (nb : Nat → Nat → Nat) (o' : Nat) (s0 : (Nat → Nat) × (Nat → Nat)) (i : Nat) : (Nat → Nat) × (Nat → Nat) := mp_sw rl o lf rt (mp_po rl o') s0 (xb_bd R sz nb o' i)
section XT
variable {S : zz_S} {rl : mx_R} {R o o' i : Nat} {sz lf rt : Nat → Nat} {nb : Nat → Nat → Nat} {s0 : (Nat → Nat) × (Nat → Nat)}
theorem xb_s0 (h : xb_ok S rl R sz nb) (ho : o' < 9) : xb_s rl R o lf rt sz nb o' s0 0 = s0 := xb_first h ho
theorem xb_sE (hi : ¬ i < sz o') : xb_s rl R o lf rt sz nb o' s0 i = mp_sw rl o lf rt (mp_po rl o') s0 R := by rw [xb_s, xb_last hi]
theorem xb_s_no (h : xb_ok S rl R sz nb) (ho : o' < 9) (hi : i < sz o') (hc : ¬ mp_of rl o lf rt (xb_s rl R o lf rt sz nb o' s0 i) (nb o' i)) : xb_s rl R o lf rt sz nb o' s0 (i + 1) = xb_s rl R o lf rt sz nb o' s0 i := by
  rw [xb_s, xb_at hi] at hc
  rw [xb_s, xb_s, xb_next h ho hi, xb_at hi, mp_sw, if_neg (fun x => hc x.2)]
theorem xb_s_yes (h : xb_ok S rl R sz nb) (ho : o' < 9) (hi : i < sz o') (hc : mp_of rl o lf rt (xb_s rl R o lf rt sz nb o' s0 i) (nb o' i)) : xb_s rl R o lf rt sz nb o' s0 (i + 1) = mp_st rl o lf rt (xb_s rl R o lf rt sz nb o' s0 i) (nb o' i) := by
  have hp : mp_po rl o' (nb o' i) = true := decide_eq_true ((h.2.2.2.2 o' ho).2.2.1 i hi).2.2.1
  rw [xb_s, xb_at hi] at hc
  rw [xb_s, xb_s, xb_next h ho hi, xb_at hi, mp_sw, if_pos ⟨hp, hc⟩]
theorem xb_sI (h : xb_ok S rl R sz nb) (hI : mp_I rl R o lf rt s0) (ho : o' < 9) (i : Nat) : mp_I rl R o lf rt (xb_s rl R o lf rt sz nb o' s0 i) := by
  refine mp_I_sw h.2.2.1 hI _ ?_
  unfold xb_bd
  split
  · rename_i hi
    exact Nat.le_of_lt ((h.2.2.2.2 o' ho).2.2.1 i hi).2.1
  · exact Nat.le_refl _
theorem xb_sB (h : xb_ok S rl R sz nb) {M B : Nat} (hl : ∀ k, k < 4 → lf k < mx_far → lf k ≤ M) (hr : ∀ k, k < 4 → rt k < mx_far → rt k ≤ M) (h0 : ∀ k, k < 4 → s0.1 k < mx_far → s0.1 k ≤ B) (hB : 2 * M + 9 ≤ B) (ho : o' < 9) (i k : Nat) (hk : k < 4) (hf : (xb_s rl R o lf rt sz nb o' s0 i).1 k < mx_far) : (xb_s rl R o lf rt sz nb o' s0 i).1 k ≤ B + 216 := by
  have hb : xb_bd R sz nb o' i ≤ R := by
    unfold xb_bd
    split
    · rename_i hi
      exact Nat.le_of_lt ((h.2.2.2.2 o' ho).2.2.1 i hi).2.1
    · exact Nat.le_refl _
  have := xb_bnd (P := mp_po rl o') h.2.2.1 hl hr h0 hB _ hb k hk hf
  have := h.2.1
  show (mp_sw rl o lf rt (mp_po rl o') s0 (xb_bd R sz nb o' i)).1 k ≤ _
  omega
/-- what an offer needs to know of the label -/
theorem xb_lab {j : Nat} {s : (Nat → Nat) × (Nat → Nat)} (hR : R ≤ 24) (hI : mp_I rl R o lf rt s) (hx : xl_ok S j s.1 s.2) {k : Nat} (hk : k < 4) : S.2 (42 + 3 * j + 1) k = vw_c (s.1 k) ∧ (s.1 k < mx_far → S.1 (42 + 3 * j + 2) k = nI (s.2 k) ∧ s.2 k < 24) := by
  refine ⟨(hx k hk).1, fun hf => ?_⟩
  have h1 := ((hI k hk).2.1 hf).1
  refine ⟨?_, by omega⟩
  rw [(hx k hk).2, vw_p_in (by omega)]
theorem xb_I0 (rl : mx_R) (R o : Nat) (lf rt : Nat → Nat) : mp_I rl R o lf rt mp_s0 := fun k _ => ⟨Nat.le_refl _, fun h => absurd h (Nat.lt_irrefl _), fun _ => rfl⟩
end XT
end
section
/-! Labels: derive. Laid by wip/whole/prog/p5.py. -/
set_option maxHeartbeats 4000000 in
set_option maxRecDepth 100000 in
theorem c_Label_applyChains (l : Launch) (q : xg_T) (S : zz_S) (j o : Nat) (hj : j ≤ 82) (rl : mx_R) (R : Nat) (sz : Nat → Nat) (nb : Nat → Nat → Nat) (hB : xb_ok S rl R sz nb) (lf rt : Nat → Nat) (M : Nat) (hM : M ≤ 281474976710656) (hlM : ∀ k, k < 4 → lf k < mx_far → lf k ≤ M) (hrM : ∀ k, k < 4 → rt k < mx_far → rt k ≤ M) (hx0 : xl_ok S j (mp_C rl R o lf rt 0).1 (mp_C rl R o lf rt 0).2) : Met l y_Label_applyChains (Cond.code y_Label_applyChains b_Label_applyChains 8 none :: zz_tbl) rm_Label_applyChains (zz_Pc [.ref (zz_ad (xg_G q) (42 + 3 * j)), .ref (zz_ad (xg_G q) 1)] (xg_G q) S) (va_Qv (fun S1 => zz_off (xl_X j) S S1 ∧ xl_ok S1 j (mp_C rl R o lf rt 3).1 (mp_C rl R o lf rt 3).2) (zz_P (xg_G q)) (zz_A (xg_G q))) 0 0 (zz_A (xg_G q)) := by
  refine zz_met (by decide) (Nat.le_of_ble_eq_true rfl) ?_
  intro p_ e_ s_ m_ bl_ mt_ c_ ls hC hK hZ hl
  have hC : zz_C p_ s_ m_ _ mt_ c_ b_Label_applyChains 8 none "TreeCoverForge$Label" := hC
  have hx_ := hC.1
  have hb_ := hC.2.1
  have hl : lv_has ls 8 [(0, .ref (zz_ad (xg_G q) (42 + 3 * j))), (1, .ref (zz_ad (xg_G q) 1))] := hl
  have hfar := vw_far
  have hR := hB.2.1
  have L28_ : ∀ (n_ : Nat) (rn : Nat) (i : Nat) (ch : Nat) (Si : zz_S) (hk89 : ∀ (ch : Nat) (Si : zz_S) (H : Heap) (locs : List Loc) (ls : Array Slot) (hch : ch = 1 ∨ (ch = 0 ∧ (mp_C rl R o lf rt (rn + 1)) = (mp_C rl R o lf rt rn))) (ho : zz_off (xl_X j) S Si) (hx : xl_ok Si j (mp_C rl R o lf rt (rn + 1)).1 (mp_C rl R o lf rt (rn + 1)).2) (hZ : zz_Z (xg_G q) Si s_.heap H locs) (hl : lv_has ls 8 [(0, .ref (zz_ad (xg_G q) (42 + 3 * j))), (1, .ref (zz_ad (xg_G q) 1)), (2, .int (nI (sz 8))), (3, .int (nI ch)), (4, .int (nI rn))]), W p_ l e_ rm_Label_applyChains s_ m_ ([.ref (zz_ad (xg_G q) (42 + 3 * j)), .ref (zz_ad (xg_G q) 1)] : List Value).toArray bl_ mt_ c_ H locs 0 0 (MQ bl_ (va_Qv (fun S1 => zz_off (xl_X j) S S1 ∧ xl_ok S1 j (mp_C rl R o lf rt 3).1 (mp_C rl R o lf rt 3).2) (zz_P (xg_G q)) (zz_A (xg_G q))) ([.ref (zz_ad (xg_G q) (42 + 3 * j)), .ref (zz_ad (xg_G q) 1)] : List Value).toArray s_ 0 0 (zz_A (xg_G q))) (F0 m_ 89 ls [])) (H : Heap) (locs : List Loc) (ls : Array Slot) (hrn : rn < 3) (hi : i ≤ sz 8) (hch : ch = 1 ∨ (ch = 0 ∧ (xb_s rl R o lf rt sz nb 8 (mp_C rl R o lf rt rn) i) = (mp_C rl R o lf rt rn))) (ho : zz_off (xl_X j) S Si) (hx : xl_ok Si j (xb_s rl R o lf rt sz nb 8 (mp_C rl R o lf rt rn) i).1 (xb_s rl R o lf rt sz nb 8 (mp_C rl R o lf rt rn) i).2) (hZ : zz_Z (xg_G q) Si s_.heap H locs) (hl : lv_has ls 8 [(0, .ref (zz_ad (xg_G q) (42 + 3 * j))), (1, .ref (zz_ad (xg_G q) 1)), (2, .int (nI (sz 8))), (3, .int (nI ch)), (4, .int (nI rn)), (5, .int (nI i))]) (hn_ : sz 8 - i = n_), W p_ l e_ rm_Label_applyChains s_ m_ ([.ref (zz_ad (xg_G q) (42 + 3 * j)), .ref (zz_ad (xg_G q) 1)] : List Value).toArray bl_ mt_ c_ H locs 0 0 (MQ bl_ (va_Qv (fun S1 => zz_off (xl_X j) S S1 ∧ xl_ok S1 j (mp_C rl R o lf rt 3).1 (mp_C rl R o lf rt 3).2) (zz_P (xg_G q)) (zz_A (xg_G q))) ([.ref (zz_ad (xg_G q) (42 + 3 * j)), .ref (zz_ad (xg_G q) 1)] : List Value).toArray s_ 0 0 (zz_A (xg_G q))) (F0 m_ 28 ls []) := by
    intro n_
    induction n_ using Nat.strongRecOn with
    | ind n_ ih_ =>
      intro rn i ch Si hk89 H locs ls hrn hi hch ho hx hZ hl hn_
      have hBi := xb_off hB ho
      have hs8 := (hB.2.2.2.2 8 (by omega)).2.1
      have hI := xb_sI (o' := 8) hBi (mp_C_I (o := o) (lf := lf) (rt := rt) hB.2.2.1 rn) (by omega) i
      refine lv_iload hx_ hb_ d_Label_applyChains_28 (lv_at hl 5 rfl) ?_
      refine lv_iload_n hx_ hb_ d_Label_applyChains_30 rfl (lv_at hl 2 rfl) ?_
      refine zz_jge (tgt := 89) hC d_Label_applyChains_31 (by decide) (by omega) (by omega) (fun h31 => ?_) (fun h31 => ?_)
      · exact hk89 ch Si  _ _ _ (by
            rw [xb_sE (by omega)] at hch
            exact hch) ho (by
            rw [xb_sE (by omega)] at hx
            exact hx) hZ (lv_sub hl [0, 1, 2, 3, 4] rfl)
      · have hri := (hBi.2.2.2.2 8 (by omega)).2.2.1 i (by omega)
        have hrR := hri.2.1
        have hrr := hBi.2.2.2.1 _ hri.2.1
        have hok := hB.2.2.1 _ hri.2.1
        have h5 := hok.2.2.2.2.1
        have hth : mx_th rl o lf rt (xb_s rl R o lf rt sz nb 8 (mp_C rl R o lf rt rn) i).1 (nb 8 i) = (rl (nb 8 i)).2.2.2.2 + (xb_s rl R o lf rt sz nb 8 (mp_C rl R o lf rt rn) i).1 (rl (nb 8 i)).2.2.1 := mx_th_ch hri.2.2.1
        refine lv_aload_n hx_ hb_ d_Label_applyChains_34 rfl (lv_at hl 1 rfl) ?_
        refine zz_get hC hK hZ 1 5 (Nat.le_of_ble_eq_true rfl) (xc_1 q _ _) rfl hin_Book (by decide) wd_68 rfl rfl d_Label_applyChains_35 ?_
        refine lv_bipush (v := nI 8) hx_ hb_ d_Label_applyChains_38 (by decide) ?_
        refine zz_aald (q := (9 + 8)) hC hK hZ 7 3 8 (Nat.le_of_ble_eq_true rfl) (xc_7 q _ _) rfl rfl rfl (by omega) (by decide) rfl d_Label_applyChains_40 ?_
        refine lv_iload hx_ hb_ d_Label_applyChains_41 (lv_at hl 5 rfl) ?_
        refine zz_iald hC hK hZ (9 + 8) 0 i (by show _ < 291; omega) (xy_row q 8 (by omega) _ _) rfl rfl (by omega) (by decide) rfl d_Label_applyChains_43 ?_
        refine zz_topi (y := nI (nb 8 i)) hri.1 ?_
        refine lv_istore (i := 6) (lv' := [(6, .int (nI (nb 8 i))), (0, .ref (zz_ad (xg_G q) (42 + 3 * j))), (1, .ref (zz_ad (xg_G q) 1)), (2, .int (nI (sz 8))), (3, .int (nI ch)), (4, .int (nI rn)), (5, .int (nI i))]) hx_ hb_ d_Label_applyChains_44 hl (by decide) rfl (fun ls hl => ?_)
        refine lv_aload_n hx_ hb_ d_Label_applyChains_46 rfl (lv_at hl 2 rfl) ?_
        refine zz_get hC hK hZ 1 2 (Nat.le_of_ble_eq_true rfl) (xc_1 q _ _) rfl hin_Book (by decide) wd_60 rfl rfl d_Label_applyChains_47 ?_
        refine lv_iload hx_ hb_ d_Label_applyChains_50 (lv_at hl 0 rfl) ?_
        refine zz_iald hC hK hZ 4 0 (nb 8 i) (Nat.le_of_ble_eq_true rfl) (xc_4 q _ _) rfl rfl (by omega) (by decide) rfl d_Label_applyChains_52 ?_
        refine zz_topi (y := nI ((rl (nb 8 i)).2.2.1)) hrr.2.2.1 ?_
        refine lv_istore (i := 7) (lv' := [(7, .int (nI ((rl (nb 8 i)).2.2.1))), (6, .int (nI (nb 8 i))), (0, .ref (zz_ad (xg_G q) (42 + 3 * j))), (1, .ref (zz_ad (xg_G q) 1)), (2, .int (nI (sz 8))), (3, .int (nI ch)), (4, .int (nI rn)), (5, .int (nI i))]) hx_ hb_ d_Label_applyChains_53 hl (by decide) rfl (fun ls hl => ?_)
        refine lv_aload_n hx_ hb_ d_Label_applyChains_55 rfl (lv_at hl 2 rfl) ?_
        refine lv_iload hx_ hb_ d_Label_applyChains_56 (lv_at hl 0 rfl) ?_
        refine zz_ci (zz_rV (As := [.int (nI ((rl (nb 8 i)).2.2.1))]) (rest := []) hC hK hZ (42 + 3 * j) (c_Label_isCovered l q Si j _ ((xb_s rl R o lf rt sz nb 8 (mp_C rl R o lf rt rn) i).1 (rl (nb 8 i)).2.2.1) hj hok.2.2.1 (hx _ hok.2.2.1).1) k_Label_isCovered (by show _ < 291; omega) (xy_lab q j _ _) rfl wd_303 ⟨rfl, rfl, by decide, by decide⟩ rfl hl.1 rfl (Nat.le_of_ble_eq_true rfl) d_Label_applyChains_58 ⟨Nat.zero_le _, Nat.zero_le _⟩) hZ (fun r58 S58 H locs hp58 hZ => ?_)
        obtain ⟨rfl, rfl⟩ := hp58
        refine zz_beq (tgt := 83) hC d_Label_applyChains_61 (by decide) (fun h61 => ?_) (fun h61 => ?_)
        · have e1 := xb_s_no (o := o) (lf := lf) (rt := rt) (s0 := (mp_C rl R o lf rt rn)) hBi (by omega) h31 (fun hc => by
            have h9 := hc.1
            rw [hth] at h9
            omega)
          refine lv_iinc (k := 7) (v := nI (i + 1)) (lv' := [(5, .int (nI (i + 1))), (7, .int (nI ((rl (nb 8 i)).2.2.1))), (6, .int (nI (nb 8 i))), (0, .ref (zz_ad (xg_G q) (42 + 3 * j))), (1, .ref (zz_ad (xg_G q) 1)), (2, .int (nI (sz 8))), (3, .int (nI ch)), (4, .int (nI rn))]) hx_ hb_ d_Label_applyChains_83 hl rfl (nI_add _ 1) (by decide) rfl (fun ls hl => ?_)
          refine lv_goto (tgt := 28) hx_ hb_ d_Label_applyChains_86 (by decide) ?_
          exact ih_ _ (by omega) rn (i + 1) ch Si hk89 _ _ _ hrn (by omega) (by rw [e1]; exact hch) ho (by rw [e1]; exact hx) hZ (lv_sub hl [3, 4, 5, 6, 7, 0] rfl) rfl
        · have hbd := xb_sB (o := o) (s0 := (mp_C rl R o lf rt rn)) hBi hlM hrM (xb_bndC hB.2.2.1 hR hlM hrM rn) (by omega) (o' := 8) (by omega) i _ hok.2.2.1 h61
          have hT : (xb_s rl R o lf rt sz nb 8 (mp_C rl R o lf rt rn) i).1 (rl (nb 8 i)).2.2.1 + (rl (nb 8 i)).2.2.2.2 < mx_far := by omega
          have hlb := xb_lab hR hI hx hok.1
          rw [Nat.add_comm] at hth
          refine lv_aload_n hx_ hb_ d_Label_applyChains_64 rfl (lv_at hl 2 rfl) ?_
          refine lv_aload_n hx_ hb_ d_Label_applyChains_65 rfl (lv_at hl 3 rfl) ?_
          refine lv_iload hx_ hb_ d_Label_applyChains_66 (lv_at hl 1 rfl) ?_
          refine lv_aload_n hx_ hb_ d_Label_applyChains_68 rfl (lv_at hl 2 rfl) ?_
          refine zz_get hC hK hZ (42 + 3 * j) 0 (by show _ < 291; omega) (xy_lab q j _ _) rfl hin_Label (by decide) wd_104 rfl rfl d_Label_applyChains_69 ?_
          refine lv_iload hx_ hb_ d_Label_applyChains_72 (lv_at hl 0 rfl) ?_
          refine zz_lald hC hK hZ (42 + 3 * j + 1) 1 ((rl (nb 8 i)).2.2.1) (by show _ < 291; omega) (xy_cost q j _ _) rfl rfl (by omega) (by decide) rfl d_Label_applyChains_74 ?_
          refine zz_topl (y := lN ((xb_s rl R o lf rt sz nb 8 (mp_C rl R o lf rt rn) i).1 (rl (nb 8 i)).2.2.1)) ((hx _ hok.2.2.1).1.trans (vw_c_in h61)) ?_
          refine zz_ci (zz_rV (As := [.ref (zz_ad (xg_G q) 1), .int (nI (nb 8 i)), .long (lN ((xb_s rl R o lf rt sz nb 8 (mp_C rl R o lf rt rn) i).1 (rl (nb 8 i)).2.2.1))]) (rest := []) hC hK hZ (42 + 3 * j) (c_Label_offer l q Si j (nb 8 i) ((xb_s rl R o lf rt sz nb 8 (mp_C rl R o lf rt rn) i).1 (rl (nb 8 i)).2.2.1) (rl (nb 8 i)).1 (rl (nb 8 i)).2.2.2.2 ((xb_s rl R o lf rt sz nb 8 (mp_C rl R o lf rt rn) i).1 (rl (nb 8 i)).1) ((xb_s rl R o lf rt sz nb 8 (mp_C rl R o lf rt rn) i).2 (rl (nb 8 i)).1) hj (by omega) hok.1 h5 hrr.1 hrr.2.2.2.2 hT hlb.1 hlb.2) k_Label_offer (by show _ < 291; omega) (xy_lab q j _ _) rfl wd_307 ⟨rfl, rfl, by decide, by decide⟩ rfl hl.1 rfl (Nat.le_of_ble_eq_true rfl) d_Label_applyChains_75 ⟨Nat.zero_le _, Nat.zero_le _⟩) hZ (fun r75 S75 H locs hp75 hZ => ?_)
          obtain ⟨rfl, hS75⟩ := hp75
          refine zz_beq (tgt := 83) hC d_Label_applyChains_78 (by decide) (fun h78 => ?_) (fun h78 => ?_)
          · have e1 := xb_s_no (o := o) (lf := lf) (rt := rt) (s0 := (mp_C rl R o lf rt rn)) hBi (by omega) h31 (fun hc => h78 (by
              have h9 := hc.2
              rw [hth] at h9
              exact h9))
            refine lv_iinc (k := 7) (v := nI (i + 1)) (lv' := [(5, .int (nI (i + 1))), (7, .int (nI ((rl (nb 8 i)).2.2.1))), (6, .int (nI (nb 8 i))), (0, .ref (zz_ad (xg_G q) (42 + 3 * j))), (1, .ref (zz_ad (xg_G q) 1)), (2, .int (nI (sz 8))), (3, .int (nI ch)), (4, .int (nI rn))]) hx_ hb_ d_Label_applyChains_83 hl rfl (nI_add _ 1) (by decide) rfl (fun ls hl => ?_)
            refine lv_goto (tgt := 28) hx_ hb_ d_Label_applyChains_86 (by decide) ?_
            exact ih_ _ (by omega) rn (i + 1) ch S75 hk89 _ _ _ hrn (by omega) (by rw [e1]; exact hch) (by rw [hS75, if_neg h78]; exact ho) (by rw [e1, hS75, if_neg h78]; exact hx) hZ (lv_sub hl [3, 4, 5, 6, 7, 0] rfl) rfl
          · have e2 := xb_s_yes (o := o) (lf := lf) (rt := rt) (s0 := (mp_C rl R o lf rt rn)) hBi (by omega) h31 ⟨by rw [hth]; exact hT, by rw [hth]; exact h78⟩
            rw [mp_st, hth] at e2
            refine lv_iconst (v := nI 1) hx_ hb_ d_Label_applyChains_81 (by decide) ?_
            refine lv_istore_n (i := 3) (lv' := [(3, .int (nI 1)), (7, .int (nI ((rl (nb 8 i)).2.2.1))), (6, .int (nI (nb 8 i))), (0, .ref (zz_ad (xg_G q) (42 + 3 * j))), (1, .ref (zz_ad (xg_G q) 1)), (2, .int (nI (sz 8))), (4, .int (nI rn)), (5, .int (nI i))]) hx_ hb_ d_Label_applyChains_82 rfl hl (by decide) rfl (fun ls hl => ?_)
            refine lv_iinc (k := 7) (v := nI (i + 1)) (lv' := [(5, .int (nI (i + 1))), (3, .int (nI 1)), (7, .int (nI ((rl (nb 8 i)).2.2.1))), (6, .int (nI (nb 8 i))), (0, .ref (zz_ad (xg_G q) (42 + 3 * j))), (1, .ref (zz_ad (xg_G q) 1)), (2, .int (nI (sz 8))), (4, .int (nI rn))]) hx_ hb_ d_Label_applyChains_83 hl rfl (nI_add _ 1) (by decide) rfl (fun ls hl => ?_)
            refine lv_goto (tgt := 28) hx_ hb_ d_Label_applyChains_86 (by decide) ?_
            exact ih_ _ (by omega) rn (i + 1) 1 S75 hk89 _ _ _ hrn (by omega) (Or.inl rfl) (by rw [hS75, if_pos h78]; exact zz_off_tr ho xl_set_off) (by rw [e2, hS75, if_pos h78]; exact xl_ok_set hx hT (by omega)) hZ (lv_sub hl [4, 5, 6, 1, 7, 0] rfl) rfl
  have L28 : ∀ (rn : Nat) (i : Nat) (ch : Nat) (Si : zz_S) (hk89 : ∀ (ch : Nat) (Si : zz_S) (H : Heap) (locs : List Loc) (ls : Array Slot) (hch : ch = 1 ∨ (ch = 0 ∧ (mp_C rl R o lf rt (rn + 1)) = (mp_C rl R o lf rt rn))) (ho : zz_off (xl_X j) S Si) (hx : xl_ok Si j (mp_C rl R o lf rt (rn + 1)).1 (mp_C rl R o lf rt (rn + 1)).2) (hZ : zz_Z (xg_G q) Si s_.heap H locs) (hl : lv_has ls 8 [(0, .ref (zz_ad (xg_G q) (42 + 3 * j))), (1, .ref (zz_ad (xg_G q) 1)), (2, .int (nI (sz 8))), (3, .int (nI ch)), (4, .int (nI rn))]), W p_ l e_ rm_Label_applyChains s_ m_ ([.ref (zz_ad (xg_G q) (42 + 3 * j)), .ref (zz_ad (xg_G q) 1)] : List Value).toArray bl_ mt_ c_ H locs 0 0 (MQ bl_ (va_Qv (fun S1 => zz_off (xl_X j) S S1 ∧ xl_ok S1 j (mp_C rl R o lf rt 3).1 (mp_C rl R o lf rt 3).2) (zz_P (xg_G q)) (zz_A (xg_G q))) ([.ref (zz_ad (xg_G q) (42 + 3 * j)), .ref (zz_ad (xg_G q) 1)] : List Value).toArray s_ 0 0 (zz_A (xg_G q))) (F0 m_ 89 ls [])) (H : Heap) (locs : List Loc) (ls : Array Slot) (hrn : rn < 3) (hi : i ≤ sz 8) (hch : ch = 1 ∨ (ch = 0 ∧ (xb_s rl R o lf rt sz nb 8 (mp_C rl R o lf rt rn) i) = (mp_C rl R o lf rt rn))) (ho : zz_off (xl_X j) S Si) (hx : xl_ok Si j (xb_s rl R o lf rt sz nb 8 (mp_C rl R o lf rt rn) i).1 (xb_s rl R o lf rt sz nb 8 (mp_C rl R o lf rt rn) i).2) (hZ : zz_Z (xg_G q) Si s_.heap H locs) (hl : lv_has ls 8 [(0, .ref (zz_ad (xg_G q) (42 + 3 * j))), (1, .ref (zz_ad (xg_G q) 1)), (2, .int (nI (sz 8))), (3, .int (nI ch)), (4, .int (nI rn)), (5, .int (nI i))]), W p_ l e_ rm_Label_applyChains s_ m_ ([.ref (zz_ad (xg_G q) (42 + 3 * j)), .ref (zz_ad (xg_G q) 1)] : List Value).toArray bl_ mt_ c_ H locs 0 0 (MQ bl_ (va_Qv (fun S1 => zz_off (xl_X j) S S1 ∧ xl_ok S1 j (mp_C rl R o lf rt 3).1 (mp_C rl R o lf rt 3).2) (zz_P (xg_G q)) (zz_A (xg_G q))) ([.ref (zz_ad (xg_G q) (42 + 3 * j)), .ref (zz_ad (xg_G q) 1)] : List Value).toArray s_ 0 0 (zz_A (xg_G q))) (F0 m_ 28 ls []) := fun rn i ch Si hk89 H locs ls hrn hi hch ho hx hZ hl => L28_ _ rn i ch Si hk89 H locs ls hrn hi hch ho hx hZ hl rfl
  have L13_ : ∀ (n_ : Nat) (rn : Nat) (ch : Nat) (Si : zz_S) (H : Heap) (locs : List Loc) (ls : Array Slot) (hrn : rn ≤ 3) (hch : ch = 1 ∨ (ch = 0 ∧ (mp_C rl R o lf rt rn) = (mp_C rl R o lf rt 3))) (ho : zz_off (xl_X j) S Si) (hx : xl_ok Si j (mp_C rl R o lf rt rn).1 (mp_C rl R o lf rt rn).2) (hZ : zz_Z (xg_G q) Si s_.heap H locs) (hl : lv_has ls 8 [(0, .ref (zz_ad (xg_G q) (42 + 3 * j))), (1, .ref (zz_ad (xg_G q) 1)), (2, .int (nI (sz 8))), (3, .int (nI ch)), (4, .int (nI rn))]) (hn_ : 3 - rn = n_), W p_ l e_ rm_Label_applyChains s_ m_ ([.ref (zz_ad (xg_G q) (42 + 3 * j)), .ref (zz_ad (xg_G q) 1)] : List Value).toArray bl_ mt_ c_ H locs 0 0 (MQ bl_ (va_Qv (fun S1 => zz_off (xl_X j) S S1 ∧ xl_ok S1 j (mp_C rl R o lf rt 3).1 (mp_C rl R o lf rt 3).2) (zz_P (xg_G q)) (zz_A (xg_G q))) ([.ref (zz_ad (xg_G q) (42 + 3 * j)), .ref (zz_ad (xg_G q) 1)] : List Value).toArray s_ 0 0 (zz_A (xg_G q))) (F0 m_ 13 ls []) := by
    intro n_
    induction n_ using Nat.strongRecOn with
    | ind n_ ih_ =>
      intro rn ch Si H locs ls hrn hch ho hx hZ hl hn_
      have hBi := xb_off hB ho
      have hch2 : ch < 2 := by omega
      refine lv_iload hx_ hb_ d_Label_applyChains_13 (lv_at hl 4 rfl) ?_
      refine lv_iconst (v := nI 3) hx_ hb_ d_Label_applyChains_15 (by decide) ?_
      refine zz_jge (tgt := 95) hC d_Label_applyChains_16 (by decide) (by omega) (by omega) (fun h16 => ?_) (fun h16 => ?_)
      · exact zz_vret hC hK hZ rfl d_Label_applyChains_95 ⟨ho, by
          have e : (mp_C rl R o lf rt rn) = (mp_C rl R o lf rt 3) := by
            first | (rw [show rn = 3 by omega]; done) | (exact hch.elim (fun h => absurd h (by omega)) (fun h => h.2))
          rw [← e]
          exact hx⟩
      · refine lv_iload_n hx_ hb_ d_Label_applyChains_19 rfl (lv_at hl 3 rfl) ?_
        refine zz_ieq (tgt := 95) hC d_Label_applyChains_20 (by decide) (by omega) (fun h20 => ?_) (fun h20 => ?_)
        · exact zz_vret hC hK hZ rfl d_Label_applyChains_95 ⟨ho, by
            have e : (mp_C rl R o lf rt rn) = (mp_C rl R o lf rt 3) := by
              first | (rw [show rn = 3 by omega]; done) | (exact hch.elim (fun h => absurd h (by omega)) (fun h => h.2))
            rw [← e]
            exact hx⟩
        · refine lv_iconst (v := nI 0) hx_ hb_ d_Label_applyChains_23 (by decide) ?_
          refine lv_istore_n (i := 3) (lv' := [(3, .int (nI 0)), (0, .ref (zz_ad (xg_G q) (42 + 3 * j))), (1, .ref (zz_ad (xg_G q) 1)), (2, .int (nI (sz 8))), (4, .int (nI rn))]) hx_ hb_ d_Label_applyChains_24 rfl hl (by decide) rfl (fun ls hl => ?_)
          refine lv_iconst (v := nI 0) hx_ hb_ d_Label_applyChains_25 (by decide) ?_
          refine lv_istore (i := 5) (lv' := [(5, .int (nI 0)), (3, .int (nI 0)), (0, .ref (zz_ad (xg_G q) (42 + 3 * j))), (1, .ref (zz_ad (xg_G q) 1)), (2, .int (nI (sz 8))), (4, .int (nI rn))]) hx_ hb_ d_Label_applyChains_26 hl (by decide) rfl (fun ls hl => ?_)
          refine L28 rn 0 0 Si ?_ _ _ _ (by omega) (Nat.zero_le _) (Or.inr ⟨rfl, xb_s0 hBi (by omega)⟩) ho (by rw [xb_s0 hBi (by omega)]; exact hx) hZ (lv_sub hl [2, 3, 4, 1, 5, 0] rfl)
          · intro ch Si H locs ls hch ho hx hZ hl
            refine lv_iinc (k := 4) (v := nI (rn + 1)) (lv' := [(4, .int (nI (rn + 1))), (0, .ref (zz_ad (xg_G q) (42 + 3 * j))), (1, .ref (zz_ad (xg_G q) 1)), (2, .int (nI (sz 8))), (3, .int (nI ch))]) hx_ hb_ d_Label_applyChains_89 hl rfl (nI_add _ 1) (by decide) rfl (fun ls hl => ?_)
            refine lv_goto (tgt := 13) hx_ hb_ d_Label_applyChains_92 (by decide) ?_
            exact ih_ _ (by omega) (rn + 1) ch Si  _ _ _ (by omega) (by
                rcases hch with h | h
                · exact Or.inl h
                · refine Or.inr ⟨h.1, ?_⟩
                  have e := mp_C_same h.2 (3 - rn)
                  rw [show rn + (3 - rn) = 3 by omega] at e
                  rw [h.2, e]) ho hx hZ (lv_sub hl [1, 2, 3, 4, 0] rfl) rfl
  have L13 : ∀ (rn : Nat) (ch : Nat) (Si : zz_S) (H : Heap) (locs : List Loc) (ls : Array Slot) (hrn : rn ≤ 3) (hch : ch = 1 ∨ (ch = 0 ∧ (mp_C rl R o lf rt rn) = (mp_C rl R o lf rt 3))) (ho : zz_off (xl_X j) S Si) (hx : xl_ok Si j (mp_C rl R o lf rt rn).1 (mp_C rl R o lf rt rn).2) (hZ : zz_Z (xg_G q) Si s_.heap H locs) (hl : lv_has ls 8 [(0, .ref (zz_ad (xg_G q) (42 + 3 * j))), (1, .ref (zz_ad (xg_G q) 1)), (2, .int (nI (sz 8))), (3, .int (nI ch)), (4, .int (nI rn))]), W p_ l e_ rm_Label_applyChains s_ m_ ([.ref (zz_ad (xg_G q) (42 + 3 * j)), .ref (zz_ad (xg_G q) 1)] : List Value).toArray bl_ mt_ c_ H locs 0 0 (MQ bl_ (va_Qv (fun S1 => zz_off (xl_X j) S S1 ∧ xl_ok S1 j (mp_C rl R o lf rt 3).1 (mp_C rl R o lf rt 3).2) (zz_P (xg_G q)) (zz_A (xg_G q))) ([.ref (zz_ad (xg_G q) (42 + 3 * j)), .ref (zz_ad (xg_G q) 1)] : List Value).toArray s_ 0 0 (zz_A (xg_G q))) (F0 m_ 13 ls []) := fun rn ch Si H locs ls hrn hch ho hx hZ hl => L13_ _ rn ch Si H locs ls hrn hch ho hx hZ hl rfl
  refine lv_aload_n hx_ hb_ d_Label_applyChains_0 rfl (lv_at hl 1 rfl) ?_
  refine zz_get hC hK hZ 1 6 (Nat.le_of_ble_eq_true rfl) (xc_1 q _ _) rfl hin_Book (by decide) wd_70 rfl rfl d_Label_applyChains_1 ?_
  refine lv_bipush (v := nI 8) hx_ hb_ d_Label_applyChains_4 (by decide) ?_
  refine zz_iald hC hK hZ 8 0 8 (Nat.le_of_ble_eq_true rfl) (xc_8 q _ _) rfl rfl (by omega) (by decide) rfl d_Label_applyChains_6 ?_
  refine zz_topi (y := nI (sz 8)) (hB.2.2.2.2 8 (by omega)).1 ?_
  refine lv_istore_n (i := 2) (lv' := [(2, .int (nI (sz 8))), (0, .ref (zz_ad (xg_G q) (42 + 3 * j))), (1, .ref (zz_ad (xg_G q) 1))]) hx_ hb_ d_Label_applyChains_7 rfl hl (by decide) rfl (fun ls hl => ?_)
  refine lv_iconst (v := nI 1) hx_ hb_ d_Label_applyChains_8 (by decide) ?_
  refine lv_istore_n (i := 3) (lv' := [(3, .int (nI 1)), (2, .int (nI (sz 8))), (0, .ref (zz_ad (xg_G q) (42 + 3 * j))), (1, .ref (zz_ad (xg_G q) 1))]) hx_ hb_ d_Label_applyChains_9 rfl hl (by decide) rfl (fun ls hl => ?_)
  refine lv_iconst (v := nI 0) hx_ hb_ d_Label_applyChains_10 (by decide) ?_
  refine lv_istore (i := 4) (lv' := [(4, .int (nI 0)), (3, .int (nI 1)), (2, .int (nI (sz 8))), (0, .ref (zz_ad (xg_G q) (42 + 3 * j))), (1, .ref (zz_ad (xg_G q) 1))]) hx_ hb_ d_Label_applyChains_11 hl (by decide) rfl (fun ls hl => ?_)
  exact L13 0 1 S  _ _ _ (by omega) (Or.inl rfl) zz_off_rf hx0 hZ (lv_sub hl [3, 4, 2, 1, 0] rfl)
set_option maxHeartbeats 4000000 in
set_option maxRecDepth 100000 in
theorem c_Label_derive (l : Launch) (q : xg_T) (S : zz_S) (j o jl jr : Nat) (hj : j ≤ 82) (ho8 : o < 8) (hjl : jl ≤ 82) (hjr : jr ≤ 82) (hnl : jl ≠ j) (hnr : jr ≠ j) (rl : mx_R) (R : Nat) (sz : Nat → Nat) (nb : Nat → Nat → Nat) (hB : xb_ok S rl R sz nb) (lf rt : Nat → Nat) (M : Nat) (hM : M ≤ 281474976710656) (hlM : ∀ k, k < 4 → lf k < mx_far → lf k ≤ M) (hrM : ∀ k, k < 4 → rt k < mx_far → rt k ≤ M) (hlf : ∀ k, k < 4 → S.2 (42 + 3 * jl + 1) k = vw_c (lf k)) (hrt : ∀ k, k < 4 → S.2 (42 + 3 * jr + 1) k = vw_c (rt k)) (hz0 : zz_kd o = 0 → ∀ k, k < 4 → lf k = 0) (hz1 : zz_kd o < 2 → ∀ k, k < 4 → rt k = 0) : Met l y_Label_derive (Cond.code y_Label_derive b_Label_derive 10 none :: zz_tbl) rm_Label_derive (zz_Pc [.ref (zz_ad (xg_G q) (42 + 3 * j)), .ref (zz_ad (xg_G q) 1), .int (nI o), .ref (zz_ad (xg_G q) (42 + 3 * jl)), .ref (zz_ad (xg_G q) (42 + 3 * jr))] (xg_G q) S) (va_Qv (fun S1 => zz_off (xl_X j) S S1 ∧ xl_ok S1 j (mp_C rl R o lf rt 3).1 (mp_C rl R o lf rt 3).2) (zz_P (xg_G q)) (zz_A (xg_G q))) 0 0 (zz_A (xg_G q)) := by
  refine zz_met (by decide) (Nat.le_of_ble_eq_true rfl) ?_
  intro p_ e_ s_ m_ bl_ mt_ c_ ls hC hK hZ hl
  have hC : zz_C p_ s_ m_ _ mt_ c_ b_Label_derive 10 none "TreeCoverForge$Label" := hC
  have hx_ := hC.1
  have hb_ := hC.2.1
  have hl : lv_has ls 10 [(0, .ref (zz_ad (xg_G q) (42 + 3 * j))), (1, .ref (zz_ad (xg_G q) 1)), (2, .int (nI o)), (3, .ref (zz_ad (xg_G q) (42 + 3 * jl))), (4, .ref (zz_ad (xg_G q) (42 + 3 * jr)))] := hl
  have hfar := vw_far
  have hR := hB.2.1
  have L30_ : ∀ (n_ : Nat) (i : Nat) (Si : zz_S) (H : Heap) (locs : List Loc) (ls : Array Slot) (hi : i ≤ sz o) (ho : zz_off (xl_X j) S Si) (hx : xl_ok Si j (xb_s rl R o lf rt sz nb o mp_s0 i).1 (xb_s rl R o lf rt sz nb o mp_s0 i).2) (hZ : zz_Z (xg_G q) Si s_.heap H locs) (hl : lv_has ls 10 [(0, .ref (zz_ad (xg_G q) (42 + 3 * j))), (1, .ref (zz_ad (xg_G q) 1)), (2, .int (nI o)), (3, .ref (zz_ad (xg_G q) (42 + 3 * jl))), (4, .ref (zz_ad (xg_G q) (42 + 3 * jr))), (5, .int (nI (sz o))), (6, .int (nI i))]) (hn_ : sz o - i = n_), W p_ l e_ rm_Label_derive s_ m_ ([.ref (zz_ad (xg_G q) (42 + 3 * j)), .ref (zz_ad (xg_G q) 1), .int (nI o), .ref (zz_ad (xg_G q) (42 + 3 * jl)), .ref (zz_ad (xg_G q) (42 + 3 * jr))] : List Value).toArray bl_ mt_ c_ H locs 0 0 (MQ bl_ (va_Qv (fun S1 => zz_off (xl_X j) S S1 ∧ xl_ok S1 j (mp_C rl R o lf rt 3).1 (mp_C rl R o lf rt 3).2) (zz_P (xg_G q)) (zz_A (xg_G q))) ([.ref (zz_ad (xg_G q) (42 + 3 * j)), .ref (zz_ad (xg_G q) 1), .int (nI o), .ref (zz_ad (xg_G q) (42 + 3 * jl)), .ref (zz_ad (xg_G q) (42 + 3 * jr))] : List Value).toArray s_ 0 0 (zz_A (xg_G q))) (F0 m_ 30 ls []) := by
    intro n_
    induction n_ using Nat.strongRecOn with
    | ind n_ ih_ =>
      intro i Si H locs ls hi ho hx hZ hl hn_
      have hBi := xb_off hB ho
      have hs8 := (hB.2.2.2.2 o (by omega)).2.1
      have hI := xb_sI (o' := o) hBi (xb_I0 rl R o lf rt) (by omega) i
      have hlf1 : ∀ k, k < 4 → Si.2 (42 + 3 * jl + 1) k = vw_c (lf k) := fun k hk => by
        rw [(ho (42 + 3 * jl + 1) (fun h => by rcases h with h | h <;> omega)).2]
        exact hlf k hk
      have hrt1 : ∀ k, k < 4 → Si.2 (42 + 3 * jr + 1) k = vw_c (rt k) := fun k hk => by
        rw [(ho (42 + 3 * jr + 1) (fun h => by rcases h with h | h <;> omega)).2]
        exact hrt k hk
      refine lv_iload hx_ hb_ d_Label_derive_30 (lv_at hl 6 rfl) ?_
      refine lv_iload hx_ hb_ d_Label_derive_32 (lv_at hl 5 rfl) ?_
      refine zz_jge (tgt := 115) hC d_Label_derive_34 (by decide) (by omega) (by omega) (fun h34 => ?_) (fun h34 => ?_)
      · refine lv_aload_n hx_ hb_ d_Label_derive_115 rfl (lv_at hl 0 rfl) ?_
        refine lv_aload_n hx_ hb_ d_Label_derive_116 rfl (lv_at hl 1 rfl) ?_
        refine zz_cv (zz_rV (As := [.ref (zz_ad (xg_G q) 1)]) (rest := []) hC hK hZ (42 + 3 * j) (c_Label_applyChains l q Si j o hj rl R sz nb hBi lf rt M hM hlM hrM (by
          rw [xb_sE (by omega)] at hx
          exact hx)) k_Label_applyChains (by show _ < 291; omega) (xy_lab q j _ _) rfl wd_311 ⟨rfl, rfl, by decide, by decide⟩ rfl hl.1 rfl (Nat.le_of_ble_eq_true rfl) d_Label_derive_117 ⟨Nat.zero_le _, Nat.zero_le _⟩) hZ (fun S117 H locs hp117 hZ => ?_)
        exact zz_vret hC hK hZ rfl d_Label_derive_120 ⟨zz_off_tr ho hp117.1, hp117.2⟩
      · have hri := (hBi.2.2.2.2 o (by omega)).2.2.1 i (by omega)
        have hrR := hri.2.1
        have hrr := hBi.2.2.2.1 _ hri.2.1
        have hok := hB.2.2.1 _ hri.2.1
        have h5 := hok.2.2.2.2.1
        have hz2 : zz_kd o = 0 → lf (rl (nb o i)).2.2.1 = 0 := fun h => hz0 h _ hok.2.2.1
        have hz3 : zz_kd o < 2 → rt (rl (nb o i)).2.2.2.1 = 0 := fun h => hz1 h _ hok.2.2.2.1
        refine lv_aload_n hx_ hb_ d_Label_derive_37 rfl (lv_at hl 1 rfl) ?_
        refine zz_get hC hK hZ 1 5 (Nat.le_of_ble_eq_true rfl) (xc_1 q _ _) rfl hin_Book (by decide) wd_68 rfl rfl d_Label_derive_38 ?_
        refine lv_iload_n hx_ hb_ d_Label_derive_41 rfl (lv_at hl 2 rfl) ?_
        refine zz_aald (q := (9 + o)) hC hK hZ 7 3 o (Nat.le_of_ble_eq_true rfl) (xc_7 q _ _) rfl rfl rfl (by omega) (by decide) rfl d_Label_derive_42 ?_
        refine lv_iload hx_ hb_ d_Label_derive_43 (lv_at hl 6 rfl) ?_
        refine zz_iald hC hK hZ (9 + o) 0 i (by show _ < 291; omega) (xy_row q o (by omega) _ _) rfl rfl (by omega) (by decide) rfl d_Label_derive_45 ?_
        refine zz_topi (y := nI (nb o i)) hri.1 ?_
        refine lv_istore (i := 7) (lv' := [(7, .int (nI (nb o i))), (0, .ref (zz_ad (xg_G q) (42 + 3 * j))), (1, .ref (zz_ad (xg_G q) 1)), (2, .int (nI o)), (3, .ref (zz_ad (xg_G q) (42 + 3 * jl))), (4, .ref (zz_ad (xg_G q) (42 + 3 * jr))), (5, .int (nI (sz o))), (6, .int (nI i))]) hx_ hb_ d_Label_derive_46 hl (by decide) rfl (fun ls hl => ?_)
        refine lv_aload_n hx_ hb_ d_Label_derive_48 rfl (lv_at hl 2 rfl) ?_
        refine zz_get hC hK hZ 1 2 (Nat.le_of_ble_eq_true rfl) (xc_1 q _ _) rfl hin_Book (by decide) wd_60 rfl rfl d_Label_derive_49 ?_
        refine lv_iload hx_ hb_ d_Label_derive_52 (lv_at hl 0 rfl) ?_
        refine zz_iald hC hK hZ 4 0 (nb o i) (Nat.le_of_ble_eq_true rfl) (xc_4 q _ _) rfl rfl (by omega) (by decide) rfl d_Label_derive_54 ?_
        refine zz_topi (y := nI ((rl (nb o i)).2.2.1)) hrr.2.2.1 ?_
        refine lv_istore (i := 8) (lv' := [(8, .int (nI ((rl (nb o i)).2.2.1))), (7, .int (nI (nb o i))), (0, .ref (zz_ad (xg_G q) (42 + 3 * j))), (1, .ref (zz_ad (xg_G q) 1)), (2, .int (nI o)), (3, .ref (zz_ad (xg_G q) (42 + 3 * jl))), (4, .ref (zz_ad (xg_G q) (42 + 3 * jr))), (5, .int (nI (sz o))), (6, .int (nI i))]) hx_ hb_ d_Label_derive_55 hl (by decide) rfl (fun ls hl => ?_)
        refine lv_aload_n hx_ hb_ d_Label_derive_57 rfl (lv_at hl 3 rfl) ?_
        refine zz_get hC hK hZ 1 3 (Nat.le_of_ble_eq_true rfl) (xc_1 q _ _) rfl hin_Book (by decide) wd_63 rfl rfl d_Label_derive_58 ?_
        refine lv_iload hx_ hb_ d_Label_derive_61 (lv_at hl 1 rfl) ?_
        refine zz_iald hC hK hZ 5 0 (nb o i) (Nat.le_of_ble_eq_true rfl) (xc_5 q _ _) rfl rfl (by omega) (by decide) rfl d_Label_derive_63 ?_
        refine zz_topi (y := nI ((rl (nb o i)).2.2.2.1)) hrr.2.2.2.1 ?_
        refine lv_istore (i := 9) (lv' := [(9, .int (nI ((rl (nb o i)).2.2.2.1))), (8, .int (nI ((rl (nb o i)).2.2.1))), (7, .int (nI (nb o i))), (0, .ref (zz_ad (xg_G q) (42 + 3 * j))), (1, .ref (zz_ad (xg_G q) 1)), (2, .int (nI o)), (3, .ref (zz_ad (xg_G q) (42 + 3 * jl))), (4, .ref (zz_ad (xg_G q) (42 + 3 * jr))), (5, .int (nI (sz o))), (6, .int (nI i))]) hx_ hb_ d_Label_derive_64 hl (by decide) rfl (fun ls hl => ?_)
        refine lv_aload_n hx_ hb_ d_Label_derive_66 rfl (lv_at hl 6 rfl) ?_
        refine lv_iload hx_ hb_ d_Label_derive_67 (lv_at hl 1 rfl) ?_
        refine zz_ci (zz_rV (As := [.int (nI ((rl (nb o i)).2.2.1))]) (rest := []) hC hK hZ (42 + 3 * jl) (c_Label_isCovered l q Si jl _ (lf (rl (nb o i)).2.2.1) hjl hok.2.2.1 (hlf1 _ hok.2.2.1)) k_Label_isCovered (by show _ < 291; omega) (xy_lab q jl _ _) rfl wd_303 ⟨rfl, rfl, by decide, by decide⟩ rfl hl.1 rfl (Nat.le_of_ble_eq_true rfl) d_Label_derive_69 ⟨Nat.zero_le _, Nat.zero_le _⟩) hZ (fun r69 S69 H locs hp69 hZ => ?_)
        obtain ⟨rfl, rfl⟩ := hp69
        refine zz_beq (tgt := 109) hC d_Label_derive_72 (by decide) (fun h72 => ?_) (fun h72 => ?_)
        · have e1 := xb_s_no (o := o) (lf := lf) (rt := rt) (s0 := mp_s0) hBi (by omega) h34 (fun hc => by
            have h9 := hc.1
            have hkd := tr_kd o
            rw [mx_th, if_neg (by omega), if_pos hri.2.2.1] at h9
            split at h9 <;> split at h9 <;> omega)
          refine lv_iinc (k := 9) (v := nI (i + 1)) (lv' := [(6, .int (nI (i + 1))), (9, .int (nI ((rl (nb o i)).2.2.2.1))), (8, .int (nI ((rl (nb o i)).2.2.1))), (7, .int (nI (nb o i))), (0, .ref (zz_ad (xg_G q) (42 + 3 * j))), (1, .ref (zz_ad (xg_G q) 1)), (2, .int (nI o)), (3, .ref (zz_ad (xg_G q) (42 + 3 * jl))), (4, .ref (zz_ad (xg_G q) (42 + 3 * jr))), (5, .int (nI (sz o)))]) hx_ hb_ d_Label_derive_109 hl rfl (nI_add _ 1) (by decide) rfl (fun ls hl => ?_)
          refine lv_goto (tgt := 30) hx_ hb_ d_Label_derive_112 (by decide) ?_
          exact ih_ _ (by omega) (i + 1) Si  _ _ _ (by omega) ho (by rw [e1]; exact hx) hZ (lv_sub hl [4, 5, 6, 7, 8, 9, 0] rfl) rfl
        · refine lv_aload hx_ hb_ d_Label_derive_75 (lv_at hl 7 rfl) ?_
          refine lv_iload hx_ hb_ d_Label_derive_77 (lv_at hl 0 rfl) ?_
          refine zz_ci (zz_rV (As := [.int (nI ((rl (nb o i)).2.2.2.1))]) (rest := []) hC hK hZ (42 + 3 * jr) (c_Label_isCovered l q Si jr _ (rt (rl (nb o i)).2.2.2.1) hjr hok.2.2.2.1 (hrt1 _ hok.2.2.2.1)) k_Label_isCovered (by show _ < 291; omega) (xy_lab q jr _ _) rfl wd_303 ⟨rfl, rfl, by decide, by decide⟩ rfl hl.1 rfl (Nat.le_of_ble_eq_true rfl) d_Label_derive_79 ⟨Nat.zero_le _, Nat.zero_le _⟩) hZ (fun r79 S79 H locs hp79 hZ => ?_)
          obtain ⟨rfl, rfl⟩ := hp79
          refine zz_beq (tgt := 109) hC d_Label_derive_82 (by decide) (fun h82 => ?_) (fun h82 => ?_)
          · have e1 := xb_s_no (o := o) (lf := lf) (rt := rt) (s0 := mp_s0) hBi (by omega) h34 (fun hc => by
              have h9 := hc.1
              have hkd := tr_kd o
              rw [mx_th, if_neg (by omega), if_pos hri.2.2.1] at h9
              split at h9 <;> split at h9 <;> omega)
            refine lv_iinc (k := 9) (v := nI (i + 1)) (lv' := [(6, .int (nI (i + 1))), (9, .int (nI ((rl (nb o i)).2.2.2.1))), (8, .int (nI ((rl (nb o i)).2.2.1))), (7, .int (nI (nb o i))), (0, .ref (zz_ad (xg_G q) (42 + 3 * j))), (1, .ref (zz_ad (xg_G q) 1)), (2, .int (nI o)), (3, .ref (zz_ad (xg_G q) (42 + 3 * jl))), (4, .ref (zz_ad (xg_G q) (42 + 3 * jr))), (5, .int (nI (sz o)))]) hx_ hb_ d_Label_derive_109 hl rfl (nI_add _ 1) (by decide) rfl (fun ls hl => ?_)
            refine lv_goto (tgt := 30) hx_ hb_ d_Label_derive_112 (by decide) ?_
            exact ih_ _ (by omega) (i + 1) Si  _ _ _ (by omega) ho (by rw [e1]; exact hx) hZ (lv_sub hl [4, 5, 6, 7, 8, 9, 0] rfl) rfl
          · have hl9 := hlM _ hok.2.2.1 h72
            have hr9 := hrM _ hok.2.2.2.1 h82
            have hT : lf (rl (nb o i)).2.2.1 + rt (rl (nb o i)).2.2.2.1 + (rl (nb o i)).2.2.2.2 < mx_far := by omega
            have hth : mx_th rl o lf rt (xb_s rl R o lf rt sz nb o mp_s0 i).1 (nb o i) = lf (rl (nb o i)).2.2.1 + rt (rl (nb o i)).2.2.2.1 + (rl (nb o i)).2.2.2.2 := by
              have hkd := tr_kd o
              rw [mx_th, if_neg (by omega), if_pos hri.2.2.1]
              split <;> split <;> omega
            have hlb := xb_lab hR hI hx hok.1
            refine lv_aload_n hx_ hb_ d_Label_derive_85 rfl (lv_at hl 3 rfl) ?_
            refine lv_aload_n hx_ hb_ d_Label_derive_86 rfl (lv_at hl 4 rfl) ?_
            refine lv_iload hx_ hb_ d_Label_derive_87 (lv_at hl 2 rfl) ?_
            refine lv_aload_n hx_ hb_ d_Label_derive_89 rfl (lv_at hl 6 rfl) ?_
            refine zz_get hC hK hZ (42 + 3 * jl) 0 (by show _ < 291; omega) (xy_lab q jl _ _) rfl hin_Label (by decide) wd_104 rfl rfl d_Label_derive_90 ?_
            refine lv_iload hx_ hb_ d_Label_derive_93 (lv_at hl 1 rfl) ?_
            refine zz_lald hC hK hZ (42 + 3 * jl + 1) 1 ((rl (nb o i)).2.2.1) (by show _ < 291; omega) (xy_cost q jl _ _) rfl rfl (by omega) (by decide) rfl d_Label_derive_95 ?_
            refine zz_topl (y := lN (lf (rl (nb o i)).2.2.1)) ((hlf1 _ hok.2.2.1).trans (vw_c_in h72)) ?_
            refine lv_aload hx_ hb_ d_Label_derive_96 (lv_at hl 7 rfl) ?_
            refine zz_get hC hK hZ (42 + 3 * jr) 0 (by show _ < 291; omega) (xy_lab q jr _ _) rfl hin_Label (by decide) wd_104 rfl rfl d_Label_derive_98 ?_
            refine lv_iload hx_ hb_ d_Label_derive_101 (lv_at hl 0 rfl) ?_
            refine zz_lald hC hK hZ (42 + 3 * jr + 1) 1 ((rl (nb o i)).2.2.2.1) (by show _ < 291; omega) (xy_cost q jr _ _) rfl rfl (by omega) (by decide) rfl d_Label_derive_103 ?_
            refine zz_topl (y := lN (rt (rl (nb o i)).2.2.2.1)) ((hrt1 _ hok.2.2.2.1).trans (vw_c_in h82)) ?_
            refine lv_ladd hx_ hb_ d_Label_derive_104 ?_
            refine zz_topl (y := lN (lf (rl (nb o i)).2.2.1 + (rt (rl (nb o i)).2.2.2.1))) (lN_add _ _) ?_
            refine zz_ci (zz_rV (As := [.ref (zz_ad (xg_G q) 1), .int (nI (nb o i)), .long (lN (lf (rl (nb o i)).2.2.1 + (rt (rl (nb o i)).2.2.2.1)))]) (rest := []) hC hK hZ (42 + 3 * j) (c_Label_offer l q Si j (nb o i) (lf (rl (nb o i)).2.2.1 + rt (rl (nb o i)).2.2.2.1) (rl (nb o i)).1 (rl (nb o i)).2.2.2.2 ((xb_s rl R o lf rt sz nb o mp_s0 i).1 (rl (nb o i)).1) ((xb_s rl R o lf rt sz nb o mp_s0 i).2 (rl (nb o i)).1) hj (by omega) hok.1 h5 hrr.1 hrr.2.2.2.2 hT hlb.1 hlb.2) k_Label_offer (by show _ < 291; omega) (xy_lab q j _ _) rfl wd_307 ⟨rfl, rfl, by decide, by decide⟩ rfl hl.1 rfl (Nat.le_of_ble_eq_true rfl) d_Label_derive_105 ⟨Nat.zero_le _, Nat.zero_le _⟩) hZ (fun r105 S105 H locs hp105 hZ => ?_)
            obtain ⟨-, hS105⟩ := hp105
            refine lv_pop hx_ hb_ d_Label_derive_108 rfl ?_
            refine lv_iinc (k := 9) (v := nI (i + 1)) (lv' := [(6, .int (nI (i + 1))), (9, .int (nI ((rl (nb o i)).2.2.2.1))), (8, .int (nI ((rl (nb o i)).2.2.1))), (7, .int (nI (nb o i))), (0, .ref (zz_ad (xg_G q) (42 + 3 * j))), (1, .ref (zz_ad (xg_G q) 1)), (2, .int (nI o)), (3, .ref (zz_ad (xg_G q) (42 + 3 * jl))), (4, .ref (zz_ad (xg_G q) (42 + 3 * jr))), (5, .int (nI (sz o)))]) hx_ hb_ d_Label_derive_109 hl rfl (nI_add _ 1) (by decide) rfl (fun ls hl => ?_)
            refine lv_goto (tgt := 30) hx_ hb_ d_Label_derive_112 (by decide) ?_
            exact ih_ _ (by omega) (i + 1) S105  _ _ _ (by omega) (by
              rw [hS105]
              split
              · exact zz_off_tr ho xl_set_off
              · exact ho) (by
              by_cases hc : (lf (rl (nb o i)).2.2.1 + rt (rl (nb o i)).2.2.2.1 + (rl (nb o i)).2.2.2.2 < (xb_s rl R o lf rt sz nb o mp_s0 i).1 (rl (nb o i)).1 ∨ lf (rl (nb o i)).2.2.1 + rt (rl (nb o i)).2.2.2.1 + (rl (nb o i)).2.2.2.2 = (xb_s rl R o lf rt sz nb o mp_s0 i).1 (rl (nb o i)).1 ∧ (nb o i) < (xb_s rl R o lf rt sz nb o mp_s0 i).2 (rl (nb o i)).1)
              · have e2 := xb_s_yes (o := o) (lf := lf) (rt := rt) (s0 := mp_s0) hBi (by omega) h34 ⟨by rw [hth]; exact hT, by rw [hth]; exact hc⟩
                rw [mp_st, hth] at e2
                rw [e2, hS105, if_pos hc]
                exact xl_ok_set hx hT (by omega)
              · have e1 := xb_s_no (o := o) (lf := lf) (rt := rt) (s0 := mp_s0) hBi (by omega) h34 (fun h => hc (by
                  have h9 := h.2
                  rw [hth] at h9
                  exact h9))
                rw [e1, hS105, if_neg hc]
                exact hx) hZ (lv_sub hl [4, 5, 6, 7, 8, 9, 0] rfl) rfl
  have L30 : ∀ (i : Nat) (Si : zz_S) (H : Heap) (locs : List Loc) (ls : Array Slot) (hi : i ≤ sz o) (ho : zz_off (xl_X j) S Si) (hx : xl_ok Si j (xb_s rl R o lf rt sz nb o mp_s0 i).1 (xb_s rl R o lf rt sz nb o mp_s0 i).2) (hZ : zz_Z (xg_G q) Si s_.heap H locs) (hl : lv_has ls 10 [(0, .ref (zz_ad (xg_G q) (42 + 3 * j))), (1, .ref (zz_ad (xg_G q) 1)), (2, .int (nI o)), (3, .ref (zz_ad (xg_G q) (42 + 3 * jl))), (4, .ref (zz_ad (xg_G q) (42 + 3 * jr))), (5, .int (nI (sz o))), (6, .int (nI i))]), W p_ l e_ rm_Label_derive s_ m_ ([.ref (zz_ad (xg_G q) (42 + 3 * j)), .ref (zz_ad (xg_G q) 1), .int (nI o), .ref (zz_ad (xg_G q) (42 + 3 * jl)), .ref (zz_ad (xg_G q) (42 + 3 * jr))] : List Value).toArray bl_ mt_ c_ H locs 0 0 (MQ bl_ (va_Qv (fun S1 => zz_off (xl_X j) S S1 ∧ xl_ok S1 j (mp_C rl R o lf rt 3).1 (mp_C rl R o lf rt 3).2) (zz_P (xg_G q)) (zz_A (xg_G q))) ([.ref (zz_ad (xg_G q) (42 + 3 * j)), .ref (zz_ad (xg_G q) 1), .int (nI o), .ref (zz_ad (xg_G q) (42 + 3 * jl)), .ref (zz_ad (xg_G q) (42 + 3 * jr))] : List Value).toArray s_ 0 0 (zz_A (xg_G q))) (F0 m_ 30 ls []) := fun i Si H locs ls hi ho hx hZ hl => L30_ _ i Si H locs ls hi ho hx hZ hl rfl
  refine lv_aload_n hx_ hb_ d_Label_derive_0 rfl (lv_at hl 0 rfl) ?_
  refine zz_get hC hK hZ (42 + 3 * j) 0 (by show _ < 291; omega) (xy_lab q j _ _) rfl hin_Label (by decide) wd_104 rfl rfl d_Label_derive_1 ?_
  refine lv_ldc2 (v := (-1)) hx_ hb_ hC.2.2.2.1 (hC.2.2.2.2.1 _ wd_298) d_Label_derive_4 ?_
  refine zz_cv (zz_rS (As := [.ref (zz_ad (xg_G q) (42 + 3 * j + 1)), .long ((-1))]) (rest := []) hC hK hZ (c_fillL l q S j hj (-1)) k_Arrays_fillJ wd_299 ⟨rfl, rfl, by decide, by decide⟩ rfl hl.1 rfl (Nat.le_of_ble_eq_true rfl) d_Label_derive_7 ⟨Nat.zero_le _, Nat.zero_le _⟩) hZ (fun S7 H locs hp7 hZ => ?_)
  refine lv_aload_n hx_ hb_ d_Label_derive_10 rfl (lv_at hl 0 rfl) ?_
  refine zz_get hC hK hZ (42 + 3 * j) 1 (by show _ < 291; omega) (xy_lab q j _ _) rfl hin_Label (by decide) wd_106 rfl rfl d_Label_derive_11 ?_
  refine lv_bipush (v := (-3)) hx_ hb_ d_Label_derive_14 (by decide) ?_
  refine zz_cv (zz_rS (As := [.ref (zz_ad (xg_G q) (42 + 3 * j + 2)), .int ((-3))]) (rest := []) hC hK hZ (c_fillC l q S7 j hj (-3)) k_Arrays_fillI wd_302 ⟨rfl, rfl, by decide, by decide⟩ rfl hl.1 rfl (Nat.le_of_ble_eq_true rfl) d_Label_derive_16 ⟨Nat.zero_le _, Nat.zero_le _⟩) hZ (fun S16 H locs hp16 hZ => ?_)
  have hoff16 : zz_off (xl_X j) S S16 := zz_off_tr (zz_off_mono hp7.1 (fun c h => Or.inl h)) (zz_off_mono hp16.1 (fun c h => Or.inr h))
  have hB16 := xb_off hB hoff16
  have hx16 : xl_ok S16 j mp_s0.1 mp_s0.2 := fun k hk => ⟨by rw [(hp16.1 (42 + 3 * j + 1) (by omega)).2, hp7.2 k hk]; exact (vw_c_out (Nat.lt_irrefl _)).symm, by rw [hp16.2 k hk]; rfl⟩
  refine lv_aload_n hx_ hb_ d_Label_derive_19 rfl (lv_at hl 1 rfl) ?_
  refine zz_get hC hK hZ 1 6 (Nat.le_of_ble_eq_true rfl) (xc_1 q _ _) rfl hin_Book (by decide) wd_70 rfl rfl d_Label_derive_20 ?_
  refine lv_iload_n hx_ hb_ d_Label_derive_23 rfl (lv_at hl 2 rfl) ?_
  refine zz_iald hC hK hZ 8 0 o (Nat.le_of_ble_eq_true rfl) (xc_8 q _ _) rfl rfl (by omega) (by decide) rfl d_Label_derive_24 ?_
  refine zz_topi (y := nI (sz o)) (hB16.2.2.2.2 o (by omega)).1 ?_
  refine lv_istore (i := 5) (lv' := [(5, .int (nI (sz o))), (0, .ref (zz_ad (xg_G q) (42 + 3 * j))), (1, .ref (zz_ad (xg_G q) 1)), (2, .int (nI o)), (3, .ref (zz_ad (xg_G q) (42 + 3 * jl))), (4, .ref (zz_ad (xg_G q) (42 + 3 * jr)))]) hx_ hb_ d_Label_derive_25 hl (by decide) rfl (fun ls hl => ?_)
  refine lv_iconst (v := nI 0) hx_ hb_ d_Label_derive_27 (by decide) ?_
  refine lv_istore (i := 6) (lv' := [(6, .int (nI 0)), (5, .int (nI (sz o))), (0, .ref (zz_ad (xg_G q) (42 + 3 * j))), (1, .ref (zz_ad (xg_G q) 1)), (2, .int (nI o)), (3, .ref (zz_ad (xg_G q) (42 + 3 * jl))), (4, .ref (zz_ad (xg_G q) (42 + 3 * jr)))]) hx_ hb_ d_Label_derive_28 hl (by decide) rfl (fun ls hl => ?_)
  exact L30 0 S16  _ _ _ (Nat.zero_le _) hoff16 (by rw [xb_s0 hB16 (by omega)]; exact hx16) hZ (lv_sub hl [2, 3, 4, 5, 6, 1, 0] rfl)
end
section
/-! The search for states: what is found so far, and what one look adds. -/
section SK
variable {rl : mx_R} {R o : Nat} {lf rt lf' rt' g q : Nat → Nat}
theorem sk_th (hok : mx_ok rl R) (h1 : 0 < zz_kd o → ∀ k, k < 4 → lf k = lf' k) (h2 : 1 < zz_kd o → ∀ k, k < 4 → rt k = rt' k) {r : Nat} (hr : r < R) : mx_th rl o lf rt g r = mx_th rl o lf' rt' g r := by
  have hb := hok r hr
  rw [mx_th, mx_th]
  split
  · rfl
  · split
    · congr 1
      · congr 1
        split
        · rename_i c
          exact h1 c _ hb.2.2.1
        · rfl
      · split
        · rename_i c
          exact h2 c _ hb.2.2.2.1
        · rfl
    · rfl
theorem sk_lab (hok : mx_ok rl R) (h1 : 0 < zz_kd o → ∀ k, k < 4 → lf k = lf' k) (h2 : 1 < zz_kd o → ∀ k, k < 4 → rt k = rt' k) (h : mx_Lab rl R o lf rt g q) : mx_Lab rl R o lf' rt' g q := by
  have e : ∀ r, r < R → mx_th rl o lf rt g r = mx_th rl o lf' rt' g r := fun r hr => sk_th hok h1 h2 hr
  obtain ⟨⟨a1, a2, a3⟩, b⟩ := h
  refine ⟨⟨a1, fun r hr => by rw [← e r hr]; exact a2 r hr, fun k hk hf => ?_⟩, fun k hk => ⟨fun hf => ?_, (b k hk).2⟩⟩
  · obtain ⟨r, hr, hm, ht⟩ := a3 k hk hf
    exact ⟨r, hr, hm, by rw [← e r hr]; exact ht⟩
  · obtain ⟨x1, x2, x3, x4⟩ := (b k hk).1 hf
    exact ⟨x1, x2, by rw [← e _ x1]; exact x3, fun r hr hm ht => x4 r hr hm (by rw [e r hr]; exact ht)⟩
theorem sk_q24 (h : mx_Lab rl R o lf rt g q) (hR : R ≤ 24) (k : Nat) (hk : k < 4) : q k ≤ 24 := by
  by_cases hf : g k < mx_far
  · have := ((h.2 k hk).1 hf).1
    omega
  · rw [(h.2 k hk).2 hf]
    exact Nat.le_refl _
end SK
def xt_ok (S : zz_S) (A : Nat → ns_St) (n : Nat) : Prop := S.1 25 2 = nI n ∧ n ≤ 41 ∧ ∀ i, i < n → xl_ok S (42 + i) (ns_at (A i).1) (ns_at (A i).2)
def xt_gd (rl : mx_R) (R : Nat) (A : Nat → ns_St) (n : Nat) : Prop := ns_from rl R A n ∧ ns_dis A n ∧ ∀ i, i < n → ∀ k, k < 4 → ns_at (A i).1 k ≤ mx_far ∧ (ns_at (A i).1 k < mx_far → ns_at (A i).1 k + 36 ≤ 36 * 2 ^ n) ∧ ns_at (A i).2 k ≤ 24
def xt_ex (A : Nat → ns_St) (n : Nat) (A' : Nat → ns_St) (n' : Nat) : Prop := n ≤ n' ∧ ∀ i, i < n → A' i = A i
abbrev xt_X : Nat → Prop := fun c => c = 25 ∨ 168 ≤ c
theorem xt_ex_rf {A : Nat → ns_St} {n : Nat} : xt_ex A n A n := ⟨Nat.le_refl _, fun _ _ => rfl⟩
theorem xt_ex_tr {A B C : Nat → ns_St} {n m k : Nat} (h : xt_ex A n B m) (h2 : xt_ex B m C k) : xt_ex A n C k := ⟨Nat.le_trans h.1 h2.1, fun i hi => (h2.2 i (Nat.lt_of_lt_of_le hi h.1)).trans (h.2 i hi)⟩
theorem xt_pow {n : Nat} (hn : n ≤ 40) : 36 * 2 ^ n ≤ 39582418599936 := by
  have h := Nat.pow_le_pow_right (n := 2) (by omega) hn
  have e : (2 : Nat) ^ 40 = 1099511627776 := by decide
  omega
/-- a new one behind the found ones -/
theorem xt_gd_new {rl : mx_R} {R o n : Nat} {A : Nat → ns_St} {a b : ns_St} {g q : Nat → Nat} (hok : mx_ok rl R) (hR : R ≤ 24) (h : xt_gd rl R A n) (hl : mx_Lab rl R o (ns_at a.1) (ns_at b.1) g q) (hb : ∀ k, k < 4 → g k < mx_far → g k + 36 ≤ 36 * 2 ^ (n + 1)) (hab : o < 3 ∨ (3 ≤ o ∧ o < 8 ∧ ∃ x y, x < n ∧ y < n ∧ a = A x ∧ b = A y)) (hnew : ∀ i, i < n → A i ≠ (ns_tup (ns_nrm g), ns_tup q)) : xt_gd rl R (va_up A n (ns_tup (ns_nrm g), ns_tup q)) (n + 1) := by
  obtain ⟨h1, h2, h3⟩ := h
  have ups : va_up A n (ns_tup (ns_nrm g), ns_tup q) n = (ns_tup (ns_nrm g), ns_tup q) := by rw [va_up, if_pos rfl]
  have upn : ∀ i, i ≠ n → va_up A n (ns_tup (ns_nrm g), ns_tup q) i = A i := fun i hi => by rw [va_up, if_neg hi]
  have hx : ns_nx rl R o a b (ns_tup (ns_nrm g), ns_tup q) := ⟨g, q, hl, rfl⟩
  refine ⟨fun i hi => ?_, fun i j hi hj e => ?_, fun i hi k hk => ?_⟩
  · by_cases e : i = n
    · subst e
      rw [ups]
      refine ⟨o, ?_⟩
      rcases hab with h | ⟨h3', h8, x, y, hx1, hy1, ea, eb⟩
      · exact Or.inl ⟨h, a, b, hx⟩
      · refine Or.inr ⟨h3', h8, x, y, hx1, hy1, ?_⟩
        rw [upn x (by omega), upn y (by omega), ← ea, ← eb]
        exact hx
    · obtain ⟨o', ho'⟩ := h1 i (by omega)
      refine ⟨o', ?_⟩
      rw [upn i e]
      rcases ho' with h | ⟨h3', h8, x, y, hx1, hy1, hh⟩
      · exact Or.inl h
      · refine Or.inr ⟨h3', h8, x, y, hx1, hy1, ?_⟩
        rw [upn x (by omega), upn y (by omega)]
        exact hh
  · by_cases ei : i = n
    · by_cases ej : j = n
      · omega
      · rw [ei, ups, upn j ej] at e
        exact absurd e.symm (hnew j (by omega))
    · by_cases ej : j = n
      · rw [ej, ups, upn i ei] at e
        exact absurd e (hnew i (by omega))
      · rw [upn i ei, upn j ej] at e
        exact h2 i j (by omega) (by omega) e
  · by_cases e : i = n
    · subst e
      rw [ups]
      show ns_at (ns_tup (ns_nrm g)) k ≤ _ ∧ (ns_at (ns_tup (ns_nrm g)) k < _ → ns_at (ns_tup (ns_nrm g)) k + 36 ≤ _) ∧ ns_at (ns_tup q) k ≤ 24
      rw [ns_at_tup _ k hk, ns_at_tup _ k hk]
      refine ⟨?_, fun hf => ?_, sk_q24 hl hR k hk⟩
      · rw [ns_nrm]
        split <;> omega
      · rw [ns_nrm] at hf ⊢
        split at hf
        · rename_i c
          rw [if_pos c]
          have := hb k hk c
          omega
        · omega
    · rw [upn i e]
      have := h3 i (by omega) k hk
      refine ⟨this.1, fun hf => ?_, this.2.2⟩
      have h4 := this.2.1 hf
      rw [Nat.pow_succ]
      omega
/-- the states of the search lie where the class keeps them -/
theorem xt_at {S : zz_S} {A : Nat → ns_St} {n i : Nat} (h : xt_ok S A n) (hi : i < n) (k : Nat) (hk : k < 4) : S.2 (42 + 3 * (42 + i) + 1) k = vw_c (ns_at (A i).1 k) := (h.2.2 i hi k hk).1
theorem ns_tup_at (t : ns_Q) : ns_tup (ns_at t) = t := rfl
theorem xt_old {S Sw : zz_S} {A : Nat → ns_St} {n : Nat} (hT : xt_ok S A n) (ho : zz_off (xl_X (42 + n)) S Sw) : ∀ i, i < n → xl_ok Sw (42 + i) (ns_at (A i).1) (ns_at (A i).2) := fun i hi k hk => by
  rw [(ho (42 + 3 * (42 + i) + 1) (fun h => by rcases h with h | h <;> omega)).2, (ho (42 + 3 * (42 + i) + 2) (fun h => by rcases h with h | h <;> omega)).1]
  exact hT.2.2 i hi k hk
theorem xt_fc {S Sw : zz_S} {n c k : Nat} (ho : zz_off (xl_X (42 + n)) S Sw) (hc : c < 100) : Sw.1 c k = S.1 c k := by
  rw [(ho c (fun h => by rcases h with h | h <;> omega)).1]
theorem xt_new {S Sw : zz_S} {A : Nat → ns_St} {n : Nat} {g q : Nat → Nat} (hT : xt_ok S A n) (hn : n ≤ 40) (ho : zz_off (xl_X (42 + n)) S Sw) (hx : xl_ok Sw (42 + n) (ns_nrm g) q) : xt_ok (zz_u Sw 25 2 (nI (n + 1))) (va_up A n (ns_tup (ns_nrm g), ns_tup q)) (n + 1) := by
  refine ⟨rfl, by omega, fun i hi k hk => ?_⟩
  have e1 : (zz_u Sw 25 2 (nI (n + 1))).2 (42 + 3 * (42 + i) + 1) k = Sw.2 (42 + 3 * (42 + i) + 1) k := rfl
  have e2 : (zz_u Sw 25 2 (nI (n + 1))).1 (42 + 3 * (42 + i) + 2) k = Sw.1 (42 + 3 * (42 + i) + 2) k := by rw [zz_u1 Sw 25 2 _ (42 + 3 * (42 + i) + 2) (by omega)]
  rw [e1, e2]
  by_cases e : i = n
  · subst e
    rw [show va_up A i (ns_tup (ns_nrm g), ns_tup q) i = (ns_tup (ns_nrm g), ns_tup q) by rw [va_up, if_pos rfl]]
    show _ = vw_c (ns_at (ns_tup (ns_nrm g)) k) ∧ _ = vw_p (ns_at (ns_tup q) k)
    rw [ns_at_tup _ k hk, ns_at_tup _ k hk]
    exact hx k hk
  · rw [show va_up A n (ns_tup (ns_nrm g), ns_tup q) i = A i by rw [va_up, if_neg e]]
    exact xt_old hT ho i (by omega) k hk
theorem xt_offX {S Sw : zz_S} {n : Nat} (ho : zz_off (xl_X (42 + n)) S Sw) : zz_off xt_X S Sw := zz_off_mono ho (fun c h => Or.inr (by rcases h with h | h <;> omega))
theorem xt_exN {A : Nat → ns_St} {n : Nat} {c : ns_St} : xt_ex A n (va_up A n c) (n + 1) := ⟨Nat.le_succ n, fun i hi => by rw [va_up, if_neg (by omega)]⟩
end
section
/-! How far the search has come. -/
def sk_has (A : Nat → ns_St) (n : Nat) (c : ns_St) : Prop := ∃ i, i < n ∧ A i = c
def sk_c0 (rl : mx_R) (R : Nat) (A : Nat → ns_St) (n o : Nat) : Prop := ∀ o', o' < o → o' < 3 → ∀ a b c, ns_nx rl R o' a b c → sk_has A n c
def sk_c1 (rl : mx_R) (R : Nat) (A : Nat → ns_St) (n i o : Nat) : Prop := ∀ o', 3 ≤ o' → o' < o → o' < 5 → ∀ b c, ns_nx rl R o' (A i) b c → sk_has A n c
def sk_c2 (rl : mx_R) (R : Nat) (A : Nat → ns_St) (n x jj : Nat) : Prop := ∀ o', 5 ≤ o' → o' < 8 → ∀ y, y < jj → ∀ c, (ns_nx rl R o' (A x) (A y) c ∨ ns_nx rl R o' (A y) (A x) c) → sk_has A n c
def sk_al (rl : mx_R) (R : Nat) (A : Nat → ns_St) (n i : Nat) : Prop := ∀ x, x < i → sk_c1 rl R A n x 5 ∧ sk_c2 rl R A n x (x + 1)
section SQ
variable {rl : mx_R} {R : Nat} {A A' : Nat → ns_St} {n n' i o jj x : Nat}
theorem sk_has_ex {c : ns_St} (h : xt_ex A n A' n') (hc : sk_has A n c) : sk_has A' n' c := by
  obtain ⟨i, hi, e⟩ := hc
  exact ⟨i, Nat.lt_of_lt_of_le hi h.1, by rw [h.2 i hi]; exact e⟩
theorem sk_c0_ex (h : xt_ex A n A' n') (hc : sk_c0 rl R A n o) : sk_c0 rl R A' n' o := fun o' h1 h2 a b c hx => sk_has_ex h (hc o' h1 h2 a b c hx)
theorem sk_c1_ex (h : xt_ex A n A' n') (hi : i < n) (hc : sk_c1 rl R A n i o) : sk_c1 rl R A' n' i o := fun o' h1 h2 h3 b c hx => sk_has_ex h (hc o' h1 h2 h3 b c (by rw [← h.2 i hi]; exact hx))
theorem sk_c2_ex (h : xt_ex A n A' n') (hx : x < n) (hj : jj ≤ n) (hc : sk_c2 rl R A n x jj) : sk_c2 rl R A' n' x jj := fun o' h1 h2 y hy c hh => sk_has_ex h (hc o' h1 h2 y hy c (by rw [← h.2 x hx, ← h.2 y (by omega)]; exact hh))
theorem sk_al_ex (h : xt_ex A n A' n') (hi : i ≤ n) (hc : sk_al rl R A n i) : sk_al rl R A' n' i := fun x hx => ⟨sk_c1_ex h (by omega) (hc x hx).1, sk_c2_ex h (by omega) (by omega) (hc x hx).2⟩
theorem sk_irr {a b a' b' c : ns_St} (hok : mx_ok rl R) (h0 : 0 < zz_kd o → a = a') (h1 : 1 < zz_kd o → b = b') (h : ns_nx rl R o a b c) : ns_nx rl R o a' b' c := by
  obtain ⟨g, q, h2, h3⟩ := h
  exact ⟨g, q, sk_lab hok (fun hk k _ => by rw [h0 hk]) (fun hk k _ => by rw [h1 hk]) h2, h3⟩
theorem sk_end (hok : mx_ok rl R) (h0 : sk_c0 rl R A n 3) (h : sk_al rl R A n n) : ns_cl rl R A n := by
  refine ⟨fun o ho a b c hx => h0 o ho ho a b c hx, fun o h3 h8 x y hx hy c hc => ?_⟩
  by_cases h5 : o < 5
  · exact (h x hx).1 o h3 (by omega) h5 _ c hc
  · by_cases hxy : y ≤ x
    · exact (h x hx).2 o (by omega) h8 y (by omega) c (Or.inl hc)
    · exact (h y hy).2 o (by omega) h8 x (by omega) c (Or.inr hc)
theorem sk_kd2 (h : 5 ≤ o) : zz_kd o = 2 := by
  unfold zz_kd
  rw [if_neg (by omega), if_neg (by omega)]
theorem sk_kd1 (h : 3 ≤ o) (h2 : o < 5) : zz_kd o = 1 := by
  unfold zz_kd
  rw [if_neg (by omega), if_pos (by omega)]
theorem sk_kd0 (h : o < 3) : zz_kd o = 0 := by
  unfold zz_kd
  rw [if_pos h]
theorem sk_gdM (hG : xt_gd rl R A n) (hi : i < n) : ∀ k, k < 4 → ns_at (A i).1 k < mx_far → ns_at (A i).1 k + 36 ≤ 36 * 2 ^ n := fun k hk hf => (hG.2.2 i hi k hk).2.1 hf
theorem sk_zM : ∀ k, k < 4 → (fun _ => 0 : Nat → Nat) k < mx_far → (fun _ => 0 : Nat → Nat) k + 36 ≤ 36 * 2 ^ n := fun k _ _ => by
  have h2 : 1 ≤ 2 ^ n := Nat.one_le_two_pow
  show 0 + 36 ≤ _
  omega
end SQ
theorem sk_bk {S So : zz_S} {rl : mx_R} {R : Nat} {sz : Nat → Nat} {nb : Nat → Nat → Nat} (hB : xb_ok S rl R sz nb) (ho : zz_off xt_X S So) : xb_ok So rl R sz nb := xb_keep hB (fun c h1 h2 => (ho c (fun h => by rcases h with h | h <;> omega)).1)
theorem sk_xat {So : zz_S} {A : Nat → ns_St} {n x : Nat} (hT : xt_ok So A n) (hx : x < n) : ∀ k, k < 4 → So.2 (42 + 3 * (42 + x) + 1) k = vw_c (ns_at (A x).1 k) := fun k hk => xt_at hT hx k hk
end
section
/-! The search for states. Laid by wip/whole/prog/p6.py. -/
set_option maxHeartbeats 4000000 in
set_option maxRecDepth 100000 in
theorem c_Table_look (l : Launch) (q : xg_T) (S : zz_S) (o jl jr n : Nat) (A : Nat → ns_St) (a b : ns_St) (ho8 : o < 8) (hjl : jl < 42 + n) (hjr : jr < 42 + n) (rl : mx_R) (R : Nat) (sz : Nat → Nat) (nb : Nat → Nat → Nat) (hB : xb_ok S rl R sz nb) (hT : xt_ok S A n) (hG : xt_gd rl R A n) (lf rt : Nat → Nat) (hlf : ∀ k, k < 4 → S.2 (42 + 3 * jl + 1) k = vw_c (lf k)) (hrt : ∀ k, k < 4 → S.2 (42 + 3 * jr + 1) k = vw_c (rt k)) (hz0 : zz_kd o = 0 → ∀ k, k < 4 → lf k = 0) (hz1 : zz_kd o < 2 → ∀ k, k < 4 → rt k = 0) (hla : 0 < zz_kd o → ∀ k, k < 4 → lf k = ns_at a.1 k) (hrb : 1 < zz_kd o → ∀ k, k < 4 → rt k = ns_at b.1 k) (hab : o < 3 ∨ (3 ≤ o ∧ o < 8 ∧ ∃ x y, x < n ∧ y < n ∧ a = A x ∧ b = A y)) (hlM : ∀ k, k < 4 → lf k < mx_far → lf k + 36 ≤ 36 * 2 ^ n) (hrM : ∀ k, k < 4 → rt k < mx_far → rt k + 36 ≤ 36 * 2 ^ n) : Met l y_Table_look (Cond.code y_Table_look b_Table_look 7 none :: zz_tbl) rm_Table_look (zz_Pc [.ref (zz_ad (xg_G q) 25), .ref (zz_ad (xg_G q) 1), .int (nI o), .ref (zz_ad (xg_G q) (42 + 3 * jl)), .ref (zz_ad (xg_G q) (42 + 3 * jr))] (xg_G q) S) (va_Qv (fun S1 => zz_off xt_X S S1 ∧ S1.1 25 3 = S.1 25 3 ∧ ∃ (A1 : Nat → ns_St) (n1 : Nat), xt_ex A n A1 n1 ∧ xt_ok S1 A1 n1 ∧ xt_gd rl R A1 n1 ∧ (n1 < 41 → ∀ c, ns_nx rl R o a b c → ∃ i, i < n1 ∧ A1 i = c)) (zz_P (xg_G q)) (zz_A (xg_G q))) 0 0 (zz_A (xg_G q)) := by
  refine zz_met (by decide) (Nat.le_of_ble_eq_true rfl) ?_
  intro p_ e_ s_ m_ bl_ mt_ c_ ls hC hK hZ hl
  have hC : zz_C p_ s_ m_ _ mt_ c_ b_Table_look 7 none "TreeCoverForge$StateTable" := hC
  have hx_ := hC.1
  have hb_ := hC.2.1
  have hl : lv_has ls 7 [(0, .ref (zz_ad (xg_G q) 25)), (1, .ref (zz_ad (xg_G q) 1)), (2, .int (nI o)), (3, .ref (zz_ad (xg_G q) (42 + 3 * jl))), (4, .ref (zz_ad (xg_G q) (42 + 3 * jr)))] := hl
  have hn41 := hT.2.1
  have hok := hB.2.2.1
  have L39_ : ∀ (n_ : Nat) (i : Nat) (Sw : zz_S) (gy : (Nat → Nat) × (Nat → Nat)) (H : Heap) (locs : List Loc) (ls : Array Slot) (hn40 : n ≤ 40) (hi : i ≤ n) (ho : zz_off (xl_X (42 + n)) S Sw) (hx : xl_ok Sw (42 + n) (ns_nrm gy.1) gy.2) (hLab : mx_Lab rl R o lf rt gy.1 gy.2) (hne : ∀ i2, i2 < i → A i2 ≠ (ns_tup (ns_nrm gy.1), ns_tup gy.2)) (hZ : zz_Z (xg_G q) Sw s_.heap H locs) (hl : lv_has ls 7 [(0, .ref (zz_ad (xg_G q) 25)), (1, .ref (zz_ad (xg_G q) 1)), (2, .int (nI o)), (3, .ref (zz_ad (xg_G q) (42 + 3 * jl))), (4, .ref (zz_ad (xg_G q) (42 + 3 * jr))), (5, .ref (zz_ad (xg_G q) (42 + 3 * (42 + n)))), (6, .int (nI i))]) (hn_ : n - i = n_), W p_ l e_ rm_Table_look s_ m_ ([.ref (zz_ad (xg_G q) 25), .ref (zz_ad (xg_G q) 1), .int (nI o), .ref (zz_ad (xg_G q) (42 + 3 * jl)), .ref (zz_ad (xg_G q) (42 + 3 * jr))] : List Value).toArray bl_ mt_ c_ H locs 0 0 (MQ bl_ (va_Qv (fun S1 => zz_off xt_X S S1 ∧ S1.1 25 3 = S.1 25 3 ∧ ∃ (A1 : Nat → ns_St) (n1 : Nat), xt_ex A n A1 n1 ∧ xt_ok S1 A1 n1 ∧ xt_gd rl R A1 n1 ∧ (n1 < 41 → ∀ c, ns_nx rl R o a b c → ∃ i, i < n1 ∧ A1 i = c)) (zz_P (xg_G q)) (zz_A (xg_G q))) ([.ref (zz_ad (xg_G q) 25), .ref (zz_ad (xg_G q) 1), .int (nI o), .ref (zz_ad (xg_G q) (42 + 3 * jl)), .ref (zz_ad (xg_G q) (42 + 3 * jr))] : List Value).toArray s_ 0 0 (zz_A (xg_G q))) (F0 m_ 39 ls []) := by
    intro n_
    induction n_ using Nat.strongRecOn with
    | ind n_ ih_ =>
      intro i Sw gy H locs ls hn40 hi ho hx hLab hne hZ hl hn_
      have hfc : Sw.1 25 2 = nI n := (xt_fc ho (by omega)).trans hT.1
      have hfd : Sw.1 25 3 = S.1 25 3 := xt_fc ho (by omega)
      have hLb := sk_lab hok hla hrb hLab
      have hpw := xt_pow hn40
      refine lv_iload hx_ hb_ d_Table_look_39 (lv_at hl 6 rfl) ?_
      refine lv_aload_n hx_ hb_ d_Table_look_41 rfl (lv_at hl 0 rfl) ?_
      refine zz_get hC hK hZ 25 2 (Nat.le_of_ble_eq_true rfl) (xc_25 q _ _) rfl hin_Table (by decide) wd_163 rfl rfl d_Table_look_42 ?_
      refine zz_topi (y := nI n) hfc ?_
      refine zz_jge (tgt := 70) hC d_Table_look_45 (by decide) (by omega) (by omega) (fun h45 => ?_) (fun h45 => ?_)
      · refine lv_aload_n hx_ hb_ d_Table_look_70 rfl (lv_at hl 0 rfl) ?_
        refine lv_dup hx_ hb_ d_Table_look_71 rfl ?_
        refine zz_get hC hK hZ 25 2 (Nat.le_of_ble_eq_true rfl) (xc_25 q _ _) rfl hin_Table (by decide) wd_163 rfl rfl d_Table_look_72 ?_
        refine zz_topi (y := nI n) hfc ?_
        refine lv_iconst (v := nI 1) hx_ hb_ d_Table_look_75 (by decide) ?_
        refine lv_iadd hx_ hb_ d_Table_look_76 ?_
        refine zz_topi (y := nI (n + 1)) (nI_add _ _) ?_
        refine zz_put hC hK hZ 25 2 (Nat.le_of_ble_eq_true rfl) (xc_25 q _ _) rfl hin_Table t_Table t_Table_ok n_Table (by decide) wd_163 rfl rfl rfl (Nat.le_of_ble_eq_true rfl) rfl d_Table_look_77 (fun H locs hZ => ?_)
        exact zz_vret hC hK hZ rfl d_Table_look_80 ⟨zz_off_tr (xt_offX ho) (fun d hd => ⟨zz_u1 Sw 25 2 _ d (fun h => hd (Or.inl h)), rfl⟩), hfd, va_up A n (ns_tup (ns_nrm gy.1), ns_tup gy.2), n + 1, xt_exN, xt_new hT hn40 ho hx, xt_gd_new hok hB.2.1 hG hLb (fun k hk hf => by
            have := ns_bound hok hLab.1 (M := 36 * 2 ^ n - 36) (fun k hk hf => by have := hlM k hk hf; omega) (fun k hk hf => by have := hrM k hk hf; omega) k hk hf
            have h2 : 1 ≤ 2 ^ n := Nat.one_le_two_pow
            rw [Nat.pow_succ]
            omega) hab (fun i2 h2 => hne i2 (by omega)), fun _ c hc => ⟨n, Nat.lt_succ_self n, by rw [va_up, if_pos rfl]; exact ns_nx_uniq hok ⟨gy.1, gy.2, hLb, rfl⟩ hc⟩⟩
      · refine lv_aload_n hx_ hb_ d_Table_look_48 rfl (lv_at hl 0 rfl) ?_
        refine zz_get hC hK hZ 25 0 (Nat.le_of_ble_eq_true rfl) (xc_25 q _ _) rfl hin_Table (by decide) wd_161 rfl rfl d_Table_look_49 ?_
        refine lv_iload hx_ hb_ d_Table_look_52 (lv_at hl 6 rfl) ?_
        refine zz_aald (q := (42 + 3 * (42 + i))) hC hK hZ 26 2 i (Nat.le_of_ble_eq_true rfl) (xc_26 q _ _) rfl rfl rfl (by omega) (by decide) rfl d_Table_look_54 ?_
        refine lv_aload hx_ hb_ d_Table_look_55 (lv_at hl 5 rfl) ?_
        refine zz_ci (zz_rV (As := [.ref (zz_ad (xg_G q) (42 + 3 * (42 + n)))]) (rest := []) hC hK hZ (42 + 3 * (42 + i)) (c_Label_agreesWith l q Sw (42 + i) (42 + n) (ns_at (A i).1) (ns_at (A i).2) (ns_nrm gy.1) gy.2 (by omega) (by omega) (xt_old hT ho i (by omega)) hx (fun k hk => ⟨(hG.2.2 i (by omega) k hk).1, by rw [ns_nrm]; have := hLab.1.1 k hk; split <;> omega, (hG.2.2 i (by omega) k hk).2.2, sk_q24 hLab hB.2.1 k hk⟩)) k_Label_agreesWith (by show _ < 291; omega) (xy_lab q (42 + i) _ _) rfl wd_323 ⟨rfl, rfl, by decide, by decide⟩ rfl hl.1 rfl (Nat.le_of_ble_eq_true rfl) d_Table_look_57 ⟨Nat.zero_le _, Nat.zero_le _⟩) hZ (fun r57 S57 H locs hp57 hZ => ?_)
        obtain ⟨rfl, rfl⟩ := hp57
        refine zz_beq (tgt := 64) hC d_Table_look_60 (by decide) (fun h60 => ?_) (fun h60 => ?_)
        · refine lv_iinc (k := 6) (v := nI (i + 1)) (lv' := [(6, .int (nI (i + 1))), (0, .ref (zz_ad (xg_G q) 25)), (1, .ref (zz_ad (xg_G q) 1)), (2, .int (nI o)), (3, .ref (zz_ad (xg_G q) (42 + 3 * jl))), (4, .ref (zz_ad (xg_G q) (42 + 3 * jr))), (5, .ref (zz_ad (xg_G q) (42 + 3 * (42 + n))))]) hx_ hb_ d_Table_look_64 hl rfl (nI_add _ 1) (by decide) rfl (fun ls hl => ?_)
          refine lv_goto (tgt := 39) hx_ hb_ d_Table_look_67 (by decide) ?_
          exact ih_ _ (by omega) (i + 1) Sw _  _ _ _ hn40 (by omega) ho hx hLab (fun i2 h2 => by
            by_cases e : i2 = i
            · subst e
              intro e0
              exact h60 ⟨by rw [ns_tup_at, e0], by rw [ns_tup_at, e0]⟩
            · exact hne i2 (by omega)) hZ (lv_sub hl [1, 2, 3, 4, 5, 6, 0] rfl) rfl
        · exact zz_vret hC hK hZ rfl d_Table_look_63 ⟨xt_offX ho, hfd, A, n, xt_ex_rf, ⟨hfc, hn41, xt_old hT ho⟩, hG, fun _ c hc => ⟨i, by omega, (Prod.ext h60.1 h60.2 : A i = (ns_tup (ns_nrm gy.1), ns_tup gy.2)).trans (ns_nx_uniq hok ⟨gy.1, gy.2, hLb, rfl⟩ hc)⟩⟩
  have L39 : ∀ (i : Nat) (Sw : zz_S) (gy : (Nat → Nat) × (Nat → Nat)) (H : Heap) (locs : List Loc) (ls : Array Slot) (hn40 : n ≤ 40) (hi : i ≤ n) (ho : zz_off (xl_X (42 + n)) S Sw) (hx : xl_ok Sw (42 + n) (ns_nrm gy.1) gy.2) (hLab : mx_Lab rl R o lf rt gy.1 gy.2) (hne : ∀ i2, i2 < i → A i2 ≠ (ns_tup (ns_nrm gy.1), ns_tup gy.2)) (hZ : zz_Z (xg_G q) Sw s_.heap H locs) (hl : lv_has ls 7 [(0, .ref (zz_ad (xg_G q) 25)), (1, .ref (zz_ad (xg_G q) 1)), (2, .int (nI o)), (3, .ref (zz_ad (xg_G q) (42 + 3 * jl))), (4, .ref (zz_ad (xg_G q) (42 + 3 * jr))), (5, .ref (zz_ad (xg_G q) (42 + 3 * (42 + n)))), (6, .int (nI i))]), W p_ l e_ rm_Table_look s_ m_ ([.ref (zz_ad (xg_G q) 25), .ref (zz_ad (xg_G q) 1), .int (nI o), .ref (zz_ad (xg_G q) (42 + 3 * jl)), .ref (zz_ad (xg_G q) (42 + 3 * jr))] : List Value).toArray bl_ mt_ c_ H locs 0 0 (MQ bl_ (va_Qv (fun S1 => zz_off xt_X S S1 ∧ S1.1 25 3 = S.1 25 3 ∧ ∃ (A1 : Nat → ns_St) (n1 : Nat), xt_ex A n A1 n1 ∧ xt_ok S1 A1 n1 ∧ xt_gd rl R A1 n1 ∧ (n1 < 41 → ∀ c, ns_nx rl R o a b c → ∃ i, i < n1 ∧ A1 i = c)) (zz_P (xg_G q)) (zz_A (xg_G q))) ([.ref (zz_ad (xg_G q) 25), .ref (zz_ad (xg_G q) 1), .int (nI o), .ref (zz_ad (xg_G q) (42 + 3 * jl)), .ref (zz_ad (xg_G q) (42 + 3 * jr))] : List Value).toArray s_ 0 0 (zz_A (xg_G q))) (F0 m_ 39 ls []) := fun i Sw gy H locs ls hn40 hi ho hx hLab hne hZ hl => L39_ _ i Sw gy H locs ls hn40 hi ho hx hLab hne hZ hl rfl
  refine lv_aload_n hx_ hb_ d_Table_look_0 rfl (lv_at hl 0 rfl) ?_
  refine zz_get hC hK hZ 25 2 (Nat.le_of_ble_eq_true rfl) (xc_25 q _ _) rfl hin_Table (by decide) wd_163 rfl rfl d_Table_look_1 ?_
  refine zz_topi (y := nI n) hT.1 ?_
  refine lv_bipush (v := nI 40) hx_ hb_ d_Table_look_4 (by decide) ?_
  refine zz_jle (tgt := 10) hC d_Table_look_6 (by decide) (by omega) (by omega) (fun h6 => ?_) (fun h6 => ?_)
  · have hpw := xt_pow h6
    refine lv_aload_n hx_ hb_ d_Table_look_10 rfl (lv_at hl 0 rfl) ?_
    refine zz_get hC hK hZ 25 0 (Nat.le_of_ble_eq_true rfl) (xc_25 q _ _) rfl hin_Table (by decide) wd_161 rfl rfl d_Table_look_11 ?_
    refine lv_aload_n hx_ hb_ d_Table_look_14 rfl (lv_at hl 0 rfl) ?_
    refine zz_get hC hK hZ 25 2 (Nat.le_of_ble_eq_true rfl) (xc_25 q _ _) rfl hin_Table (by decide) wd_163 rfl rfl d_Table_look_15 ?_
    refine zz_topi (y := nI n) hT.1 ?_
    refine zz_aald (q := (42 + 3 * (42 + n))) hC hK hZ 26 2 n (Nat.le_of_ble_eq_true rfl) (xc_26 q _ _) rfl rfl rfl (by omega) (by decide) rfl d_Table_look_18 ?_
    refine lv_astore (i := 5) (lv' := [(5, .ref (zz_ad (xg_G q) (42 + 3 * (42 + n)))), (0, .ref (zz_ad (xg_G q) 25)), (1, .ref (zz_ad (xg_G q) 1)), (2, .int (nI o)), (3, .ref (zz_ad (xg_G q) (42 + 3 * jl))), (4, .ref (zz_ad (xg_G q) (42 + 3 * jr)))]) hx_ hb_ d_Table_look_19 hl (by decide) rfl (fun ls hl => ?_)
    refine lv_aload hx_ hb_ d_Table_look_21 (lv_at hl 0 rfl) ?_
    refine lv_aload_n hx_ hb_ d_Table_look_23 rfl (lv_at hl 2 rfl) ?_
    refine lv_iload_n hx_ hb_ d_Table_look_24 rfl (lv_at hl 3 rfl) ?_
    refine lv_aload_n hx_ hb_ d_Table_look_25 rfl (lv_at hl 4 rfl) ?_
    refine lv_aload hx_ hb_ d_Table_look_26 (lv_at hl 5 rfl) ?_
    refine zz_cv (zz_rV (As := [.ref (zz_ad (xg_G q) 1), .int (nI o), .ref (zz_ad (xg_G q) (42 + 3 * jl)), .ref (zz_ad (xg_G q) (42 + 3 * jr))]) (rest := []) hC hK hZ (42 + 3 * (42 + n)) (c_Label_derive l q S (42 + n) o jl jr (by omega) ho8 (by omega) (by omega) (by omega) (by omega) rl R sz nb hB lf rt (36 * 2 ^ n - 36) (by omega) (fun k hk hf => by have := hlM k hk hf; omega) (fun k hk hf => by have := hrM k hk hf; omega) hlf hrt hz0 hz1) k_Label_derive (by show _ < 291; omega) (xy_lab q (42 + n) _ _) rfl wd_294 ⟨rfl, rfl, by decide, by decide⟩ rfl hl.1 rfl (Nat.le_of_ble_eq_true rfl) d_Table_look_28 ⟨Nat.zero_le _, Nat.zero_le _⟩) hZ (fun S28 H locs hp28 hZ => ?_)
    have hLab := mp_cls (lf := lf) (rt := rt) hok ho8
    refine lv_aload hx_ hb_ d_Table_look_31 (lv_at hl 0 rfl) ?_
    refine zz_cv (zz_rV (As := []) (rest := []) hC hK hZ (42 + 3 * (42 + n)) (c_Label_makeRelative l q S28 (42 + n) (mp_C rl R o lf rt 3).1 (by omega) (fun k hk => ⟨(hp28.2 k hk).1, hLab.1.1 k hk⟩)) k_Label_makeRelative (by show _ < 291; omega) (xy_lab q (42 + n) _ _) rfl wd_315 ⟨rfl, rfl, by decide, by decide⟩ rfl hl.1 rfl (Nat.le_of_ble_eq_true rfl) d_Table_look_33 ⟨Nat.zero_le _, Nat.zero_le _⟩) hZ (fun S33 H locs hp33 hZ => ?_)
    refine lv_iconst (v := nI 0) hx_ hb_ d_Table_look_36 (by decide) ?_
    refine lv_istore (i := 6) (lv' := [(6, .int (nI 0)), (5, .ref (zz_ad (xg_G q) (42 + 3 * (42 + n)))), (0, .ref (zz_ad (xg_G q) 25)), (1, .ref (zz_ad (xg_G q) 1)), (2, .int (nI o)), (3, .ref (zz_ad (xg_G q) (42 + 3 * jl))), (4, .ref (zz_ad (xg_G q) (42 + 3 * jr)))]) hx_ hb_ d_Table_look_37 hl (by decide) rfl (fun ls hl => ?_)
    exact L39 0 S33 _  _ _ _ (by omega) (Nat.zero_le _) (zz_off_tr hp28.1 (zz_off_mono hp33.1 (fun c h => Or.inl h))) (fun k hk => ⟨hp33.2 k hk, by rw [(hp33.1 (42 + 3 * (42 + n) + 2) (by omega)).1]; exact (hp28.2 k hk).2⟩) hLab (fun i2 h2 => absurd h2 (Nat.not_lt_zero i2)) hZ (lv_sub hl [2, 3, 4, 5, 6, 1, 0] rfl)
  · exact zz_vret hC hK hZ rfl d_Table_look_9 ⟨zz_off_rf, rfl, A, n, xt_ex_rf, hT, hG, fun h => absurd h (by omega)⟩
set_option maxHeartbeats 4000000 in
set_option maxRecDepth 100000 in
theorem c_Table_lookAtPair (l : Launch) (q : xg_T) (S : zz_S) (x y : Nat) (rl : mx_R) (R : Nat) (sz : Nat → Nat) (nb : Nat → Nat → Nat) (hB : xb_ok S rl R sz nb) (n : Nat) (A : Nat → ns_St) (hT : xt_ok S A n) (hG : xt_gd rl R A n) (hyx : y ≤ x) (hxn : x < n) : Met l y_Table_lookAtPair (Cond.code y_Table_lookAtPair b_Table_lookAtPair 5 none :: zz_tbl) rm_Table_lookAtPair (zz_Pc [.ref (zz_ad (xg_G q) 25), .ref (zz_ad (xg_G q) 1), .int (nI x), .int (nI y)] (xg_G q) S) (va_Qv (fun S1 => zz_off xt_X S S1 ∧ S1.1 25 3 = S.1 25 3 ∧ ∃ (A1 : Nat → ns_St) (n1 : Nat), xt_ex A n A1 n1 ∧ xt_ok S1 A1 n1 ∧ xt_gd rl R A1 n1 ∧ (n1 < 41 → ∀ o2, 5 ≤ o2 → o2 < 8 → ∀ c, (ns_nx rl R o2 (A x) (A y) c ∨ ns_nx rl R o2 (A y) (A x) c) → sk_has A1 n1 c)) (zz_P (xg_G q)) (zz_A (xg_G q))) 0 0 (zz_A (xg_G q)) := by
  refine zz_met (by decide) (Nat.le_of_ble_eq_true rfl) ?_
  intro p_ e_ s_ m_ bl_ mt_ c_ ls hC hK hZ hl
  have hC : zz_C p_ s_ m_ _ mt_ c_ b_Table_lookAtPair 5 none "TreeCoverForge$StateTable" := hC
  have hx_ := hC.1
  have hb_ := hC.2.1
  have hl : lv_has ls 5 [(0, .ref (zz_ad (xg_G q) 25)), (1, .ref (zz_ad (xg_G q) 1)), (2, .int (nI x)), (3, .int (nI y))] := hl
  have hn41 := hT.2.1
  have L3_ : ∀ (n_ : Nat) (o : Nat) (So : zz_S) (A0 : Nat → ns_St) (n0 : Nat) (H : Heap) (locs : List Loc) (ls : Array Slot) (ho5 : 5 ≤ o ∧ o ≤ 8) (ho : zz_off xt_X S So) (hf : So.1 25 3 = S.1 25 3) (he : xt_ex A n A0 n0) (hT0 : xt_ok So A0 n0) (hG0 : xt_gd rl R A0 n0) (hcl : n0 < 41 → ∀ o2, 5 ≤ o2 → o2 < o → ∀ c, (ns_nx rl R o2 (A x) (A y) c ∨ ns_nx rl R o2 (A y) (A x) c) → sk_has A0 n0 c) (hZ : zz_Z (xg_G q) So s_.heap H locs) (hl : lv_has ls 5 [(0, .ref (zz_ad (xg_G q) 25)), (1, .ref (zz_ad (xg_G q) 1)), (2, .int (nI x)), (3, .int (nI y)), (4, .int (nI o))]) (hn_ : 8 - o = n_), W p_ l e_ rm_Table_lookAtPair s_ m_ ([.ref (zz_ad (xg_G q) 25), .ref (zz_ad (xg_G q) 1), .int (nI x), .int (nI y)] : List Value).toArray bl_ mt_ c_ H locs 0 0 (MQ bl_ (va_Qv (fun S1 => zz_off xt_X S S1 ∧ S1.1 25 3 = S.1 25 3 ∧ ∃ (A1 : Nat → ns_St) (n1 : Nat), xt_ex A n A1 n1 ∧ xt_ok S1 A1 n1 ∧ xt_gd rl R A1 n1 ∧ (n1 < 41 → ∀ o2, 5 ≤ o2 → o2 < 8 → ∀ c, (ns_nx rl R o2 (A x) (A y) c ∨ ns_nx rl R o2 (A y) (A x) c) → sk_has A1 n1 c)) (zz_P (xg_G q)) (zz_A (xg_G q))) ([.ref (zz_ad (xg_G q) 25), .ref (zz_ad (xg_G q) 1), .int (nI x), .int (nI y)] : List Value).toArray s_ 0 0 (zz_A (xg_G q))) (F0 m_ 3 ls []) := by
    intro n_
    induction n_ using Nat.strongRecOn with
    | ind n_ ih_ =>
      intro o So A0 n0 H locs ls ho5 ho hf he hT0 hG0 hcl hZ hl hn_
      have hn0 := he.1
      have hn1 := hT0.2.1
      have hkd := sk_kd2 ho5.1
      refine lv_iload hx_ hb_ d_Table_lookAtPair_3 (lv_at hl 4 rfl) ?_
      refine lv_bipush (v := nI 7) hx_ hb_ d_Table_lookAtPair_5 (by decide) ?_
      refine zz_jgt (tgt := 59) hC d_Table_lookAtPair_7 (by decide) (by omega) (by omega) (fun h7 => ?_) (fun h7 => ?_)
      · exact zz_vret hC hK hZ rfl d_Table_lookAtPair_59 ⟨ho, hf, A0, n0, he, hT0, hG0, fun hn o2 h5 h8 c hh => hcl hn o2 h5 (by omega) c hh⟩
      · refine lv_aload_n hx_ hb_ d_Table_lookAtPair_10 rfl (lv_at hl 0 rfl) ?_
        refine lv_aload_n hx_ hb_ d_Table_lookAtPair_11 rfl (lv_at hl 1 rfl) ?_
        refine lv_iload hx_ hb_ d_Table_lookAtPair_12 (lv_at hl 4 rfl) ?_
        refine lv_aload_n hx_ hb_ d_Table_lookAtPair_14 rfl (lv_at hl 0 rfl) ?_
        refine zz_get hC hK hZ 25 0 (Nat.le_of_ble_eq_true rfl) (xc_25 q _ _) rfl hin_Table (by decide) wd_161 rfl rfl d_Table_lookAtPair_15 ?_
        refine lv_iload_n hx_ hb_ d_Table_lookAtPair_18 rfl (lv_at hl 2 rfl) ?_
        refine zz_aald (q := (42 + 3 * (42 + x))) hC hK hZ 26 2 x (Nat.le_of_ble_eq_true rfl) (xc_26 q _ _) rfl rfl rfl (by omega) (by decide) rfl d_Table_lookAtPair_19 ?_
        refine lv_aload_n hx_ hb_ d_Table_lookAtPair_20 rfl (lv_at hl 0 rfl) ?_
        refine zz_get hC hK hZ 25 0 (Nat.le_of_ble_eq_true rfl) (xc_25 q _ _) rfl hin_Table (by decide) wd_161 rfl rfl d_Table_lookAtPair_21 ?_
        refine lv_iload_n hx_ hb_ d_Table_lookAtPair_24 rfl (lv_at hl 3 rfl) ?_
        refine zz_aald (q := (42 + 3 * (42 + y))) hC hK hZ 26 2 y (Nat.le_of_ble_eq_true rfl) (xc_26 q _ _) rfl rfl rfl (by omega) (by decide) rfl d_Table_lookAtPair_25 ?_
        refine zz_cv (zz_rV (As := [.ref (zz_ad (xg_G q) 1), .int (nI o), .ref (zz_ad (xg_G q) (42 + 3 * (42 + x))), .ref (zz_ad (xg_G q) (42 + 3 * (42 + y)))]) (rest := []) hC hK hZ 25 (c_Table_look l q So o (42 + x) (42 + y) n0 A0 (A0 x) (A0 y) (by omega) (by omega) (by omega) rl R sz nb (sk_bk hB ho) hT0 hG0 (ns_at (A0 x).1) (ns_at (A0 y).1) (sk_xat hT0 (by omega)) (sk_xat hT0 (by omega)) (fun h => absurd h (by omega)) (fun h => absurd h (by omega)) (fun _ _ _ => rfl) (fun _ _ _ => rfl) (Or.inr ⟨by omega, by omega, x, y, by omega, by omega, rfl, rfl⟩) (sk_gdM hG0 (by omega)) (sk_gdM hG0 (by omega))) k_Table_look (Nat.le_of_ble_eq_true rfl) (xc_25 q _ _) rfl wd_290 ⟨rfl, rfl, by decide, by decide⟩ rfl hl.1 rfl (Nat.le_of_ble_eq_true rfl) d_Table_lookAtPair_26 ⟨Nat.zero_le _, Nat.zero_le _⟩) hZ (fun S26 H locs hp26 hZ => ?_)
        obtain ⟨hoa, hfa, Aa, na, hea, hTa, hGa, hca⟩ := hp26
        have hn2 := hea.1
        have hn3 := hTa.2.1
        refine lv_iload_n hx_ hb_ d_Table_lookAtPair_29 rfl (lv_at hl 2 rfl) ?_
        refine lv_iload_n hx_ hb_ d_Table_lookAtPair_30 rfl (lv_at hl 3 rfl) ?_
        refine zz_jeq (tgt := 53) hC d_Table_lookAtPair_31 (by decide) (by omega) (by omega) (fun h31 => ?_) (fun h31 => ?_)
        · refine lv_iinc (k := 4) (v := nI (o + 1)) (lv' := [(4, .int (nI (o + 1))), (0, .ref (zz_ad (xg_G q) 25)), (1, .ref (zz_ad (xg_G q) 1)), (2, .int (nI x)), (3, .int (nI y))]) hx_ hb_ d_Table_lookAtPair_53 hl rfl (nI_add _ 1) (by decide) rfl (fun ls hl => ?_)
          refine lv_goto (tgt := 3) hx_ hb_ d_Table_lookAtPair_56 (by decide) ?_
          exact ih_ _ (by omega) (o + 1) S26 _ _  _ _ _ (by omega) (zz_off_tr ho hoa) (hfa.trans hf) (xt_ex_tr he hea) hTa hGa (fun hn o2 h5 h6 c hh => by
            have hn0 := hea.1
            by_cases e : o2 = o
            · subst e
              subst h31
              have hh : ns_nx rl R o2 (A x) (A x) c := hh.elim id id
              rw [← he.2 x (by omega)] at hh
              exact hca hn c hh
            · exact sk_has_ex hea (hcl (by omega) o2 h5 (by omega) c hh)) hZ (lv_sub hl [1, 2, 3, 4, 0] rfl) rfl
        · refine lv_aload_n hx_ hb_ d_Table_lookAtPair_34 rfl (lv_at hl 0 rfl) ?_
          refine lv_aload_n hx_ hb_ d_Table_lookAtPair_35 rfl (lv_at hl 1 rfl) ?_
          refine lv_iload hx_ hb_ d_Table_lookAtPair_36 (lv_at hl 4 rfl) ?_
          refine lv_aload_n hx_ hb_ d_Table_lookAtPair_38 rfl (lv_at hl 0 rfl) ?_
          refine zz_get hC hK hZ 25 0 (Nat.le_of_ble_eq_true rfl) (xc_25 q _ _) rfl hin_Table (by decide) wd_161 rfl rfl d_Table_lookAtPair_39 ?_
          refine lv_iload_n hx_ hb_ d_Table_lookAtPair_42 rfl (lv_at hl 3 rfl) ?_
          refine zz_aald (q := (42 + 3 * (42 + y))) hC hK hZ 26 2 y (Nat.le_of_ble_eq_true rfl) (xc_26 q _ _) rfl rfl rfl (by omega) (by decide) rfl d_Table_lookAtPair_43 ?_
          refine lv_aload_n hx_ hb_ d_Table_lookAtPair_44 rfl (lv_at hl 0 rfl) ?_
          refine zz_get hC hK hZ 25 0 (Nat.le_of_ble_eq_true rfl) (xc_25 q _ _) rfl hin_Table (by decide) wd_161 rfl rfl d_Table_lookAtPair_45 ?_
          refine lv_iload_n hx_ hb_ d_Table_lookAtPair_48 rfl (lv_at hl 2 rfl) ?_
          refine zz_aald (q := (42 + 3 * (42 + x))) hC hK hZ 26 2 x (Nat.le_of_ble_eq_true rfl) (xc_26 q _ _) rfl rfl rfl (by omega) (by decide) rfl d_Table_lookAtPair_49 ?_
          refine zz_cv (zz_rV (As := [.ref (zz_ad (xg_G q) 1), .int (nI o), .ref (zz_ad (xg_G q) (42 + 3 * (42 + y))), .ref (zz_ad (xg_G q) (42 + 3 * (42 + x)))]) (rest := []) hC hK hZ 25 (c_Table_look l q S26 o (42 + y) (42 + x) na Aa (Aa y) (Aa x) (by omega) (by omega) (by omega) rl R sz nb (sk_bk hB (zz_off_tr ho hoa)) hTa hGa (ns_at (Aa y).1) (ns_at (Aa x).1) (sk_xat hTa (by omega)) (sk_xat hTa (by omega)) (fun h => absurd h (by omega)) (fun h => absurd h (by omega)) (fun _ _ _ => rfl) (fun _ _ _ => rfl) (Or.inr ⟨by omega, by omega, y, x, by omega, by omega, rfl, rfl⟩) (sk_gdM hGa (by omega)) (sk_gdM hGa (by omega))) k_Table_look (Nat.le_of_ble_eq_true rfl) (xc_25 q _ _) rfl wd_290 ⟨rfl, rfl, by decide, by decide⟩ rfl hl.1 rfl (Nat.le_of_ble_eq_true rfl) d_Table_lookAtPair_50 ⟨Nat.zero_le _, Nat.zero_le _⟩) hZ (fun S50 H locs hp50 hZ => ?_)
          obtain ⟨hob, hfb, Ab, nb, heb, hTb, hGb, hcb⟩ := hp50
          refine lv_iinc (k := 4) (v := nI (o + 1)) (lv' := [(4, .int (nI (o + 1))), (0, .ref (zz_ad (xg_G q) 25)), (1, .ref (zz_ad (xg_G q) 1)), (2, .int (nI x)), (3, .int (nI y))]) hx_ hb_ d_Table_lookAtPair_53 hl rfl (nI_add _ 1) (by decide) rfl (fun ls hl => ?_)
          refine lv_goto (tgt := 3) hx_ hb_ d_Table_lookAtPair_56 (by decide) ?_
          exact ih_ _ (by omega) (o + 1) S50 _ _  _ _ _ (by omega) (zz_off_tr (zz_off_tr ho hoa) hob) (hfb.trans (hfa.trans hf)) (xt_ex_tr (xt_ex_tr he hea) heb) hTb hGb (fun hn o2 h5 h6 c hh => by
            have hn0 := hea.1
            have hn1 := heb.1
            by_cases e : o2 = o
            · subst e
              rcases hh with hh | hh
              · rw [← he.2 x (by omega), ← he.2 y (by omega)] at hh
                exact sk_has_ex heb (hca (by omega) c hh)
              · rw [← he.2 x (by omega), ← he.2 y (by omega), ← hea.2 x (by omega), ← hea.2 y (by omega)] at hh
                exact hcb hn c hh
            · exact sk_has_ex heb (sk_has_ex hea (hcl (by omega) o2 h5 (by omega) c hh))) hZ (lv_sub hl [1, 2, 3, 4, 0] rfl) rfl
  have L3 : ∀ (o : Nat) (So : zz_S) (A0 : Nat → ns_St) (n0 : Nat) (H : Heap) (locs : List Loc) (ls : Array Slot) (ho5 : 5 ≤ o ∧ o ≤ 8) (ho : zz_off xt_X S So) (hf : So.1 25 3 = S.1 25 3) (he : xt_ex A n A0 n0) (hT0 : xt_ok So A0 n0) (hG0 : xt_gd rl R A0 n0) (hcl : n0 < 41 → ∀ o2, 5 ≤ o2 → o2 < o → ∀ c, (ns_nx rl R o2 (A x) (A y) c ∨ ns_nx rl R o2 (A y) (A x) c) → sk_has A0 n0 c) (hZ : zz_Z (xg_G q) So s_.heap H locs) (hl : lv_has ls 5 [(0, .ref (zz_ad (xg_G q) 25)), (1, .ref (zz_ad (xg_G q) 1)), (2, .int (nI x)), (3, .int (nI y)), (4, .int (nI o))]), W p_ l e_ rm_Table_lookAtPair s_ m_ ([.ref (zz_ad (xg_G q) 25), .ref (zz_ad (xg_G q) 1), .int (nI x), .int (nI y)] : List Value).toArray bl_ mt_ c_ H locs 0 0 (MQ bl_ (va_Qv (fun S1 => zz_off xt_X S S1 ∧ S1.1 25 3 = S.1 25 3 ∧ ∃ (A1 : Nat → ns_St) (n1 : Nat), xt_ex A n A1 n1 ∧ xt_ok S1 A1 n1 ∧ xt_gd rl R A1 n1 ∧ (n1 < 41 → ∀ o2, 5 ≤ o2 → o2 < 8 → ∀ c, (ns_nx rl R o2 (A x) (A y) c ∨ ns_nx rl R o2 (A y) (A x) c) → sk_has A1 n1 c)) (zz_P (xg_G q)) (zz_A (xg_G q))) ([.ref (zz_ad (xg_G q) 25), .ref (zz_ad (xg_G q) 1), .int (nI x), .int (nI y)] : List Value).toArray s_ 0 0 (zz_A (xg_G q))) (F0 m_ 3 ls []) := fun o So A0 n0 H locs ls ho5 ho hf he hT0 hG0 hcl hZ hl => L3_ _ o So A0 n0 H locs ls ho5 ho hf he hT0 hG0 hcl hZ hl rfl
  refine lv_iconst (v := nI 5) hx_ hb_ d_Table_lookAtPair_0 (by decide) ?_
  refine lv_istore (i := 4) (lv' := [(4, .int (nI 5)), (0, .ref (zz_ad (xg_G q) 25)), (1, .ref (zz_ad (xg_G q) 1)), (2, .int (nI x)), (3, .int (nI y))]) hx_ hb_ d_Table_lookAtPair_1 hl (by decide) rfl (fun ls hl => ?_)
  exact L3 5 S _ _  _ _ _ (by omega) zz_off_rf rfl xt_ex_rf hT hG (fun _ o2 h5 h6 => absurd h6 (by omega)) hZ (lv_sub hl [1, 2, 3, 4, 0] rfl)
set_option maxHeartbeats 4000000 in
set_option maxRecDepth 100000 in
theorem c_Table_findAll (l : Launch) (q : xg_T) (S : zz_S) (rl : mx_R) (R : Nat) (sz : Nat → Nat) (nb : Nat → Nat → Nat) (hB : xb_ok S rl R sz nb) (hN : ∀ k, k < 4 → S.2 (42 + 3 * 41 + 1) k = vw_c 0) : Met l y_Table_findAll (Cond.code y_Table_findAll b_Table_findAll 4 none :: zz_tbl) rm_Table_findAll (zz_Pc [.ref (zz_ad (xg_G q) 25), .ref (zz_ad (xg_G q) 1)] (xg_G q) S) (va_Qv (fun S1 => zz_off xt_X S S1 ∧ ns_ans rl R (S1.1 25 3)) (zz_P (xg_G q)) (zz_A (xg_G q))) 0 0 (zz_A (xg_G q)) := by
  refine zz_met (by decide) (Nat.le_of_ble_eq_true rfl) ?_
  intro p_ e_ s_ m_ bl_ mt_ c_ ls hC hK hZ hl
  have hC : zz_C p_ s_ m_ _ mt_ c_ b_Table_findAll 4 none "TreeCoverForge$StateTable" := hC
  have hx_ := hC.1
  have hb_ := hC.2.1
  have hl : lv_has ls 4 [(0, .ref (zz_ad (xg_G q) 25)), (1, .ref (zz_ad (xg_G q) 1))] := hl
  have hok := hB.2.2.1
  have J106 : ∀ (So : zz_S) (A0 : Nat → ns_St) (n0 : Nat) (H : Heap) (locs : List Loc) (ls : Array Slot) (ho : zz_off xt_X S So) (hT0 : xt_ok So A0 n0) (hG0 : xt_gd rl R A0 n0) (hfin : n0 ≤ 40 → ns_cl rl R A0 n0) (hZ : zz_Z (xg_G q) So s_.heap H locs) (hl : lv_has ls 4 [(0, .ref (zz_ad (xg_G q) 25)), (1, .ref (zz_ad (xg_G q) 1))]), W p_ l e_ rm_Table_findAll s_ m_ ([.ref (zz_ad (xg_G q) 25), .ref (zz_ad (xg_G q) 1)] : List Value).toArray bl_ mt_ c_ H locs 0 0 (MQ bl_ (va_Qv (fun S1 => zz_off xt_X S S1 ∧ ns_ans rl R (S1.1 25 3)) (zz_P (xg_G q)) (zz_A (xg_G q))) ([.ref (zz_ad (xg_G q) 25), .ref (zz_ad (xg_G q) 1)] : List Value).toArray s_ 0 0 (zz_A (xg_G q))) (F0 m_ 106 ls []) := by
    intro So A0 n0 H locs ls ho hT0 hG0 hfin hZ hl
    have hn1 := hT0.2.1
    refine lv_aload_n hx_ hb_ d_Table_findAll_106 rfl (lv_at hl 0 rfl) ?_
    refine lv_aload_n hx_ hb_ d_Table_findAll_107 rfl (lv_at hl 0 rfl) ?_
    refine zz_get hC hK hZ 25 2 (Nat.le_of_ble_eq_true rfl) (xc_25 q _ _) rfl hin_Table (by decide) wd_163 rfl rfl d_Table_findAll_108 ?_
    refine zz_topi (y := nI n0) hT0.1 ?_
    refine lv_bipush (v := nI 40) hx_ hb_ d_Table_findAll_111 (by decide) ?_
    refine zz_jle (tgt := 121) hC d_Table_findAll_113 (by decide) (by omega) (by omega) (fun h113 => ?_) (fun h113 => ?_)
    · refine lv_aload_n hx_ hb_ d_Table_findAll_121 rfl (lv_at hl 0 rfl) ?_
      refine zz_get hC hK hZ 25 2 (Nat.le_of_ble_eq_true rfl) (xc_25 q _ _) rfl hin_Table (by decide) wd_163 rfl rfl d_Table_findAll_122 ?_
      refine zz_topi (y := nI n0) hT0.1 ?_
      refine zz_put hC hK hZ 25 3 (Nat.le_of_ble_eq_true rfl) (xc_25 q _ _) rfl hin_Table t_Table t_Table_ok n_Table (by decide) wd_164 rfl rfl rfl (Nat.le_of_ble_eq_true rfl) rfl d_Table_findAll_125 (fun H locs hZ => ?_)
      exact zz_vret hC hK hZ rfl d_Table_findAll_128 ⟨zz_off_tr ho (fun d hd => ⟨zz_u1 So 25 3 _ d (fun h => hd (Or.inl h)), rfl⟩), Or.inl ⟨A0, n0, by omega, rfl, hG0.1, hG0.2.1, hfin (by omega)⟩⟩
    · refine lv_bipush (v := (-4)) hx_ hb_ d_Table_findAll_116 (by decide) ?_
      refine lv_goto (tgt := 125) hx_ hb_ d_Table_findAll_118 (by decide) ?_
      refine zz_put hC hK hZ 25 3 (Nat.le_of_ble_eq_true rfl) (xc_25 q _ _) rfl hin_Table t_Table t_Table_ok n_Table (by decide) wd_164 rfl rfl rfl (Nat.le_of_ble_eq_true rfl) rfl d_Table_findAll_125 (fun H locs hZ => ?_)
      exact zz_vret hC hK hZ rfl d_Table_findAll_128 ⟨zz_off_tr ho (fun d hd => ⟨zz_u1 So 25 3 _ d (fun h => hd (Or.inl h)), rfl⟩), Or.inr ⟨rfl, A0, by rw [show 41 = n0 by omega]; exact ⟨hG0.1, hG0.2.1⟩⟩⟩
  have L53_ : ∀ (n_ : Nat) (i : Nat) (o : Nat) (So : zz_S) (A0 : Nat → ns_St) (n0 : Nat) (hk80 : ∀ (So : zz_S) (A0 : Nat → ns_St) (n0 : Nat) (H : Heap) (locs : List Loc) (ls : Array Slot) (hin : i < n0) (ho : zz_off xt_X S So) (hT0 : xt_ok So A0 n0) (hG0 : xt_gd rl R A0 n0) (hcl : n0 < 41 → sk_c0 rl R A0 n0 3 ∧ sk_al rl R A0 n0 i) (hc1 : n0 < 41 → sk_c1 rl R A0 n0 i 5) (hZ : zz_Z (xg_G q) So s_.heap H locs) (hl : lv_has ls 4 [(0, .ref (zz_ad (xg_G q) 25)), (1, .ref (zz_ad (xg_G q) 1)), (2, .int (nI i))]), W p_ l e_ rm_Table_findAll s_ m_ ([.ref (zz_ad (xg_G q) 25), .ref (zz_ad (xg_G q) 1)] : List Value).toArray bl_ mt_ c_ H locs 0 0 (MQ bl_ (va_Qv (fun S1 => zz_off xt_X S S1 ∧ ns_ans rl R (S1.1 25 3)) (zz_P (xg_G q)) (zz_A (xg_G q))) ([.ref (zz_ad (xg_G q) 25), .ref (zz_ad (xg_G q) 1)] : List Value).toArray s_ 0 0 (zz_A (xg_G q))) (F0 m_ 80 ls [])) (H : Heap) (locs : List Loc) (ls : Array Slot) (hin : i < n0) (ho3 : 3 ≤ o ∧ o ≤ 5) (ho : zz_off xt_X S So) (hT0 : xt_ok So A0 n0) (hG0 : xt_gd rl R A0 n0) (hcl : n0 < 41 → sk_c0 rl R A0 n0 3 ∧ sk_al rl R A0 n0 i) (hc1 : n0 < 41 → sk_c1 rl R A0 n0 i o) (hZ : zz_Z (xg_G q) So s_.heap H locs) (hl : lv_has ls 4 [(0, .ref (zz_ad (xg_G q) 25)), (1, .ref (zz_ad (xg_G q) 1)), (2, .int (nI i)), (3, .int (nI o))]) (hn_ : 5 - o = n_), W p_ l e_ rm_Table_findAll s_ m_ ([.ref (zz_ad (xg_G q) 25), .ref (zz_ad (xg_G q) 1)] : List Value).toArray bl_ mt_ c_ H locs 0 0 (MQ bl_ (va_Qv (fun S1 => zz_off xt_X S S1 ∧ ns_ans rl R (S1.1 25 3)) (zz_P (xg_G q)) (zz_A (xg_G q))) ([.ref (zz_ad (xg_G q) 25), .ref (zz_ad (xg_G q) 1)] : List Value).toArray s_ 0 0 (zz_A (xg_G q))) (F0 m_ 53 ls []) := by
    intro n_
    induction n_ using Nat.strongRecOn with
    | ind n_ ih_ =>
      intro i o So A0 n0 hk80 H locs ls hin ho3 ho hT0 hG0 hcl hc1 hZ hl hn_
      have hn1 := hT0.2.1
      have hN0 : ∀ k, k < 4 → So.2 (42 + 3 * 41 + 1) k = vw_c 0 := fun k hk => by
        rw [(ho (42 + 3 * 41 + 1) (by omega)).2]
        exact hN k hk
      refine lv_iload_n hx_ hb_ d_Table_findAll_53 rfl (lv_at hl 3 rfl) ?_
      refine lv_iconst (v := nI 4) hx_ hb_ d_Table_findAll_54 (by decide) ?_
      refine zz_jgt (tgt := 80) hC d_Table_findAll_55 (by decide) (by omega) (by omega) (fun h55 => ?_) (fun h55 => ?_)
      · exact hk80 So _ _  _ _ _ hin ho hT0 hG0 hcl (by rw [show o = 5 by omega] at hc1; exact hc1) hZ (lv_sub hl [0, 1, 2] rfl)
      · have hkd := sk_kd1 ho3.1 (show o < 5 by omega)
        refine lv_aload_n hx_ hb_ d_Table_findAll_58 rfl (lv_at hl 0 rfl) ?_
        refine lv_aload_n hx_ hb_ d_Table_findAll_59 rfl (lv_at hl 1 rfl) ?_
        refine lv_iload_n hx_ hb_ d_Table_findAll_60 rfl (lv_at hl 3 rfl) ?_
        refine lv_aload_n hx_ hb_ d_Table_findAll_61 rfl (lv_at hl 0 rfl) ?_
        refine zz_get hC hK hZ 25 0 (Nat.le_of_ble_eq_true rfl) (xc_25 q _ _) rfl hin_Table (by decide) wd_161 rfl rfl d_Table_findAll_62 ?_
        refine lv_iload_n hx_ hb_ d_Table_findAll_65 rfl (lv_at hl 2 rfl) ?_
        refine zz_aald (q := (42 + 3 * (42 + i))) hC hK hZ 26 2 i (Nat.le_of_ble_eq_true rfl) (xc_26 q _ _) rfl rfl rfl (by omega) (by decide) rfl d_Table_findAll_66 ?_
        refine lv_aload_n hx_ hb_ d_Table_findAll_67 rfl (lv_at hl 0 rfl) ?_
        refine zz_get hC hK hZ 25 1 (Nat.le_of_ble_eq_true rfl) (xc_25 q _ _) rfl hin_Table (by decide) wd_162 rfl rfl d_Table_findAll_68 ?_
        refine zz_cv (zz_rV (As := [.ref (zz_ad (xg_G q) 1), .int (nI o), .ref (zz_ad (xg_G q) (42 + 3 * (42 + i))), .ref (zz_ad (xg_G q) (42 + 3 * 41))]) (rest := []) hC hK hZ 25 (c_Table_look l q So o (42 + i) 41 n0 A0 (A0 i) (A0 i) (by omega) (by omega) (by omega) rl R sz nb (sk_bk hB ho) hT0 hG0 (ns_at (A0 i).1) (fun _ => 0) (sk_xat hT0 (by omega)) hN0 (fun h => absurd h (by omega)) (fun _ _ _ => rfl) (fun _ _ _ => rfl) (fun h => absurd h (by omega)) (Or.inr ⟨by omega, by omega, i, i, by omega, by omega, rfl, rfl⟩) (sk_gdM hG0 (by omega)) sk_zM) k_Table_look (Nat.le_of_ble_eq_true rfl) (xc_25 q _ _) rfl wd_290 ⟨rfl, rfl, by decide, by decide⟩ rfl hl.1 rfl (Nat.le_of_ble_eq_true rfl) d_Table_findAll_71 ⟨Nat.zero_le _, Nat.zero_le _⟩) hZ (fun S71 H locs hp71 hZ => ?_)
        obtain ⟨hoa, hfa, Aa, na, hea, hTa, hGa, hca⟩ := hp71
        refine lv_iinc (k := 3) (v := nI (o + 1)) (lv' := [(3, .int (nI (o + 1))), (0, .ref (zz_ad (xg_G q) 25)), (1, .ref (zz_ad (xg_G q) 1)), (2, .int (nI i))]) hx_ hb_ d_Table_findAll_74 hl rfl (nI_add _ 1) (by decide) rfl (fun ls hl => ?_)
        refine lv_goto (tgt := 53) hx_ hb_ d_Table_findAll_77 (by decide) ?_
        exact ih_ _ (by omega) i (o + 1) S71 _ _ hk80 _ _ _ (by have := hea.1; omega) (by omega) (zz_off_tr ho hoa) hTa hGa (fun hn => by
          have hn0 := hea.1
          exact ⟨sk_c0_ex hea (hcl (by omega)).1, sk_al_ex hea (by omega) (hcl (by omega)).2⟩) (fun hn o2 h3 h4 h5 b c hx => by
          have hn0 := hea.1
          by_cases e : o2 = o
          · subst e
            rw [hea.2 i (by omega)] at hx
            exact hca hn c (sk_irr hok (fun _ => rfl) (fun h => absurd h (by omega)) hx)
          · exact sk_c1_ex hea (by omega) (hc1 (by omega)) o2 h3 (by omega) h5 b c hx) hZ (lv_sub hl [1, 2, 3, 0] rfl) rfl
  have L53 : ∀ (i : Nat) (o : Nat) (So : zz_S) (A0 : Nat → ns_St) (n0 : Nat) (hk80 : ∀ (So : zz_S) (A0 : Nat → ns_St) (n0 : Nat) (H : Heap) (locs : List Loc) (ls : Array Slot) (hin : i < n0) (ho : zz_off xt_X S So) (hT0 : xt_ok So A0 n0) (hG0 : xt_gd rl R A0 n0) (hcl : n0 < 41 → sk_c0 rl R A0 n0 3 ∧ sk_al rl R A0 n0 i) (hc1 : n0 < 41 → sk_c1 rl R A0 n0 i 5) (hZ : zz_Z (xg_G q) So s_.heap H locs) (hl : lv_has ls 4 [(0, .ref (zz_ad (xg_G q) 25)), (1, .ref (zz_ad (xg_G q) 1)), (2, .int (nI i))]), W p_ l e_ rm_Table_findAll s_ m_ ([.ref (zz_ad (xg_G q) 25), .ref (zz_ad (xg_G q) 1)] : List Value).toArray bl_ mt_ c_ H locs 0 0 (MQ bl_ (va_Qv (fun S1 => zz_off xt_X S S1 ∧ ns_ans rl R (S1.1 25 3)) (zz_P (xg_G q)) (zz_A (xg_G q))) ([.ref (zz_ad (xg_G q) 25), .ref (zz_ad (xg_G q) 1)] : List Value).toArray s_ 0 0 (zz_A (xg_G q))) (F0 m_ 80 ls [])) (H : Heap) (locs : List Loc) (ls : Array Slot) (hin : i < n0) (ho3 : 3 ≤ o ∧ o ≤ 5) (ho : zz_off xt_X S So) (hT0 : xt_ok So A0 n0) (hG0 : xt_gd rl R A0 n0) (hcl : n0 < 41 → sk_c0 rl R A0 n0 3 ∧ sk_al rl R A0 n0 i) (hc1 : n0 < 41 → sk_c1 rl R A0 n0 i o) (hZ : zz_Z (xg_G q) So s_.heap H locs) (hl : lv_has ls 4 [(0, .ref (zz_ad (xg_G q) 25)), (1, .ref (zz_ad (xg_G q) 1)), (2, .int (nI i)), (3, .int (nI o))]), W p_ l e_ rm_Table_findAll s_ m_ ([.ref (zz_ad (xg_G q) 25), .ref (zz_ad (xg_G q) 1)] : List Value).toArray bl_ mt_ c_ H locs 0 0 (MQ bl_ (va_Qv (fun S1 => zz_off xt_X S S1 ∧ ns_ans rl R (S1.1 25 3)) (zz_P (xg_G q)) (zz_A (xg_G q))) ([.ref (zz_ad (xg_G q) 25), .ref (zz_ad (xg_G q) 1)] : List Value).toArray s_ 0 0 (zz_A (xg_G q))) (F0 m_ 53 ls []) := fun i o So A0 n0 hk80 H locs ls hin ho3 ho hT0 hG0 hcl hc1 hZ hl => L53_ _ i o So A0 n0 hk80 H locs ls hin ho3 ho hT0 hG0 hcl hc1 hZ hl rfl
  have L82_ : ∀ (n_ : Nat) (i : Nat) (jj : Nat) (So : zz_S) (A0 : Nat → ns_St) (n0 : Nat) (hk100 : ∀ (So : zz_S) (A0 : Nat → ns_St) (n0 : Nat) (H : Heap) (locs : List Loc) (ls : Array Slot) (hin : i < n0) (ho : zz_off xt_X S So) (hT0 : xt_ok So A0 n0) (hG0 : xt_gd rl R A0 n0) (hcl : n0 < 41 → sk_c0 rl R A0 n0 3 ∧ sk_al rl R A0 n0 i) (hc1 : n0 < 41 → sk_c1 rl R A0 n0 i 5 ∧ sk_c2 rl R A0 n0 i (i + 1)) (hZ : zz_Z (xg_G q) So s_.heap H locs) (hl : lv_has ls 4 [(0, .ref (zz_ad (xg_G q) 25)), (1, .ref (zz_ad (xg_G q) 1)), (2, .int (nI i))]), W p_ l e_ rm_Table_findAll s_ m_ ([.ref (zz_ad (xg_G q) 25), .ref (zz_ad (xg_G q) 1)] : List Value).toArray bl_ mt_ c_ H locs 0 0 (MQ bl_ (va_Qv (fun S1 => zz_off xt_X S S1 ∧ ns_ans rl R (S1.1 25 3)) (zz_P (xg_G q)) (zz_A (xg_G q))) ([.ref (zz_ad (xg_G q) 25), .ref (zz_ad (xg_G q) 1)] : List Value).toArray s_ 0 0 (zz_A (xg_G q))) (F0 m_ 100 ls [])) (H : Heap) (locs : List Loc) (ls : Array Slot) (hin : i < n0) (hjj : jj ≤ i + 1) (ho : zz_off xt_X S So) (hT0 : xt_ok So A0 n0) (hG0 : xt_gd rl R A0 n0) (hcl : n0 < 41 → sk_c0 rl R A0 n0 3 ∧ sk_al rl R A0 n0 i) (hc1 : n0 < 41 → sk_c1 rl R A0 n0 i 5 ∧ sk_c2 rl R A0 n0 i jj) (hZ : zz_Z (xg_G q) So s_.heap H locs) (hl : lv_has ls 4 [(0, .ref (zz_ad (xg_G q) 25)), (1, .ref (zz_ad (xg_G q) 1)), (2, .int (nI i)), (3, .int (nI jj))]) (hn_ : i + 1 - jj = n_), W p_ l e_ rm_Table_findAll s_ m_ ([.ref (zz_ad (xg_G q) 25), .ref (zz_ad (xg_G q) 1)] : List Value).toArray bl_ mt_ c_ H locs 0 0 (MQ bl_ (va_Qv (fun S1 => zz_off xt_X S S1 ∧ ns_ans rl R (S1.1 25 3)) (zz_P (xg_G q)) (zz_A (xg_G q))) ([.ref (zz_ad (xg_G q) 25), .ref (zz_ad (xg_G q) 1)] : List Value).toArray s_ 0 0 (zz_A (xg_G q))) (F0 m_ 82 ls []) := by
    intro n_
    induction n_ using Nat.strongRecOn with
    | ind n_ ih_ =>
      intro i jj So A0 n0 hk100 H locs ls hin hjj ho hT0 hG0 hcl hc1 hZ hl hn_
      have hn1 := hT0.2.1
      have hN0 : ∀ k, k < 4 → So.2 (42 + 3 * 41 + 1) k = vw_c 0 := fun k hk => by
        rw [(ho (42 + 3 * 41 + 1) (by omega)).2]
        exact hN k hk
      refine lv_iload_n hx_ hb_ d_Table_findAll_82 rfl (lv_at hl 3 rfl) ?_
      refine lv_iload_n hx_ hb_ d_Table_findAll_83 rfl (lv_at hl 2 rfl) ?_
      refine zz_jgt (tgt := 100) hC d_Table_findAll_84 (by decide) (by omega) (by omega) (fun h84 => ?_) (fun h84 => ?_)
      · exact hk100 So _ _  _ _ _ hin ho hT0 hG0 hcl (by rw [show jj = i + 1 by omega] at hc1; exact hc1) hZ (lv_sub hl [0, 1, 2] rfl)
      · refine lv_aload_n hx_ hb_ d_Table_findAll_87 rfl (lv_at hl 0 rfl) ?_
        refine lv_aload_n hx_ hb_ d_Table_findAll_88 rfl (lv_at hl 1 rfl) ?_
        refine lv_iload_n hx_ hb_ d_Table_findAll_89 rfl (lv_at hl 2 rfl) ?_
        refine lv_iload_n hx_ hb_ d_Table_findAll_90 rfl (lv_at hl 3 rfl) ?_
        refine zz_cv (zz_rV (As := [.ref (zz_ad (xg_G q) 1), .int (nI i), .int (nI jj)]) (rest := []) hC hK hZ 25 (c_Table_lookAtPair l q So i jj rl R sz nb (sk_bk hB ho) n0 A0 hT0 hG0 (by omega) (by omega)) k_Table_lookAtPair (Nat.le_of_ble_eq_true rfl) (xc_25 q _ _) rfl wd_327 ⟨rfl, rfl, by decide, by decide⟩ rfl hl.1 rfl (Nat.le_of_ble_eq_true rfl) d_Table_findAll_91 ⟨Nat.zero_le _, Nat.zero_le _⟩) hZ (fun S91 H locs hp91 hZ => ?_)
        obtain ⟨hoa, hfa, Aa, na, hea, hTa, hGa, hca⟩ := hp91
        refine lv_iinc (k := 3) (v := nI (jj + 1)) (lv' := [(3, .int (nI (jj + 1))), (0, .ref (zz_ad (xg_G q) 25)), (1, .ref (zz_ad (xg_G q) 1)), (2, .int (nI i))]) hx_ hb_ d_Table_findAll_94 hl rfl (nI_add _ 1) (by decide) rfl (fun ls hl => ?_)
        refine lv_goto (tgt := 82) hx_ hb_ d_Table_findAll_97 (by decide) ?_
        exact ih_ _ (by omega) i (jj + 1) S91 _ _ hk100 _ _ _ (by have := hea.1; omega) (by omega) (zz_off_tr ho hoa) hTa hGa (fun hn => by
          have hn0 := hea.1
          exact ⟨sk_c0_ex hea (hcl (by omega)).1, sk_al_ex hea (by omega) (hcl (by omega)).2⟩) (fun hn => by
          have hn0 := hea.1
          refine ⟨sk_c1_ex hea (by omega) (hc1 (by omega)).1, fun o2 h5 h8 y hy c hh => ?_⟩
          by_cases e : y = jj
          · subst e
            rw [hea.2 i (by omega), hea.2 y (by omega)] at hh
            exact hca hn o2 h5 h8 c hh
          · exact sk_c2_ex hea (by omega) (by omega) (hc1 (by omega)).2 o2 h5 h8 y (by omega) c hh) hZ (lv_sub hl [1, 2, 3, 0] rfl) rfl
  have L82 : ∀ (i : Nat) (jj : Nat) (So : zz_S) (A0 : Nat → ns_St) (n0 : Nat) (hk100 : ∀ (So : zz_S) (A0 : Nat → ns_St) (n0 : Nat) (H : Heap) (locs : List Loc) (ls : Array Slot) (hin : i < n0) (ho : zz_off xt_X S So) (hT0 : xt_ok So A0 n0) (hG0 : xt_gd rl R A0 n0) (hcl : n0 < 41 → sk_c0 rl R A0 n0 3 ∧ sk_al rl R A0 n0 i) (hc1 : n0 < 41 → sk_c1 rl R A0 n0 i 5 ∧ sk_c2 rl R A0 n0 i (i + 1)) (hZ : zz_Z (xg_G q) So s_.heap H locs) (hl : lv_has ls 4 [(0, .ref (zz_ad (xg_G q) 25)), (1, .ref (zz_ad (xg_G q) 1)), (2, .int (nI i))]), W p_ l e_ rm_Table_findAll s_ m_ ([.ref (zz_ad (xg_G q) 25), .ref (zz_ad (xg_G q) 1)] : List Value).toArray bl_ mt_ c_ H locs 0 0 (MQ bl_ (va_Qv (fun S1 => zz_off xt_X S S1 ∧ ns_ans rl R (S1.1 25 3)) (zz_P (xg_G q)) (zz_A (xg_G q))) ([.ref (zz_ad (xg_G q) 25), .ref (zz_ad (xg_G q) 1)] : List Value).toArray s_ 0 0 (zz_A (xg_G q))) (F0 m_ 100 ls [])) (H : Heap) (locs : List Loc) (ls : Array Slot) (hin : i < n0) (hjj : jj ≤ i + 1) (ho : zz_off xt_X S So) (hT0 : xt_ok So A0 n0) (hG0 : xt_gd rl R A0 n0) (hcl : n0 < 41 → sk_c0 rl R A0 n0 3 ∧ sk_al rl R A0 n0 i) (hc1 : n0 < 41 → sk_c1 rl R A0 n0 i 5 ∧ sk_c2 rl R A0 n0 i jj) (hZ : zz_Z (xg_G q) So s_.heap H locs) (hl : lv_has ls 4 [(0, .ref (zz_ad (xg_G q) 25)), (1, .ref (zz_ad (xg_G q) 1)), (2, .int (nI i)), (3, .int (nI jj))]), W p_ l e_ rm_Table_findAll s_ m_ ([.ref (zz_ad (xg_G q) 25), .ref (zz_ad (xg_G q) 1)] : List Value).toArray bl_ mt_ c_ H locs 0 0 (MQ bl_ (va_Qv (fun S1 => zz_off xt_X S S1 ∧ ns_ans rl R (S1.1 25 3)) (zz_P (xg_G q)) (zz_A (xg_G q))) ([.ref (zz_ad (xg_G q) 25), .ref (zz_ad (xg_G q) 1)] : List Value).toArray s_ 0 0 (zz_A (xg_G q))) (F0 m_ 82 ls []) := fun i jj So A0 n0 hk100 H locs ls hin hjj ho hT0 hG0 hcl hc1 hZ hl => L82_ _ i jj So A0 n0 hk100 H locs ls hin hjj ho hT0 hG0 hcl hc1 hZ hl rfl
  have L34_ : ∀ (n_ : Nat) (i : Nat) (So : zz_S) (A0 : Nat → ns_St) (n0 : Nat) (H : Heap) (locs : List Loc) (ls : Array Slot) (hi : i ≤ n0) (ho : zz_off xt_X S So) (hT0 : xt_ok So A0 n0) (hG0 : xt_gd rl R A0 n0) (hcl : n0 < 41 → sk_c0 rl R A0 n0 3 ∧ sk_al rl R A0 n0 i) (hZ : zz_Z (xg_G q) So s_.heap H locs) (hl : lv_has ls 4 [(0, .ref (zz_ad (xg_G q) 25)), (1, .ref (zz_ad (xg_G q) 1)), (2, .int (nI i))]) (hn_ : 42 - i = n_), W p_ l e_ rm_Table_findAll s_ m_ ([.ref (zz_ad (xg_G q) 25), .ref (zz_ad (xg_G q) 1)] : List Value).toArray bl_ mt_ c_ H locs 0 0 (MQ bl_ (va_Qv (fun S1 => zz_off xt_X S S1 ∧ ns_ans rl R (S1.1 25 3)) (zz_P (xg_G q)) (zz_A (xg_G q))) ([.ref (zz_ad (xg_G q) 25), .ref (zz_ad (xg_G q) 1)] : List Value).toArray s_ 0 0 (zz_A (xg_G q))) (F0 m_ 34 ls []) := by
    intro n_
    induction n_ using Nat.strongRecOn with
    | ind n_ ih_ =>
      intro i So A0 n0 H locs ls hi ho hT0 hG0 hcl hZ hl hn_
      have hn1 := hT0.2.1
      have hN0 : ∀ k, k < 4 → So.2 (42 + 3 * 41 + 1) k = vw_c 0 := fun k hk => by
        rw [(ho (42 + 3 * 41 + 1) (by omega)).2]
        exact hN k hk
      refine lv_iload_n hx_ hb_ d_Table_findAll_34 rfl (lv_at hl 2 rfl) ?_
      refine lv_aload_n hx_ hb_ d_Table_findAll_35 rfl (lv_at hl 0 rfl) ?_
      refine zz_get hC hK hZ 25 2 (Nat.le_of_ble_eq_true rfl) (xc_25 q _ _) rfl hin_Table (by decide) wd_163 rfl rfl d_Table_findAll_36 ?_
      refine zz_topi (y := nI n0) hT0.1 ?_
      refine zz_jge (tgt := 106) hC d_Table_findAll_39 (by decide) (by omega) (by omega) (fun h39 => ?_) (fun h39 => ?_)
      · exact J106 So _ _  _ _ _ ho hT0 hG0 (fun hn => by
          have h9 := hcl (by omega)
          have h8 : sk_al rl R A0 n0 n0 := fun x hx => h9.2 x (by omega)
          exact sk_end hok h9.1 h8) hZ (lv_sub hl [0, 1] rfl)
      · refine lv_aload_n hx_ hb_ d_Table_findAll_42 rfl (lv_at hl 0 rfl) ?_
        refine zz_get hC hK hZ 25 2 (Nat.le_of_ble_eq_true rfl) (xc_25 q _ _) rfl hin_Table (by decide) wd_163 rfl rfl d_Table_findAll_43 ?_
        refine zz_topi (y := nI n0) hT0.1 ?_
        refine lv_bipush (v := nI 40) hx_ hb_ d_Table_findAll_46 (by decide) ?_
        refine zz_jgt (tgt := 106) hC d_Table_findAll_48 (by decide) (by omega) (by omega) (fun h48 => ?_) (fun h48 => ?_)
        · exact J106 So _ _  _ _ _ ho hT0 hG0 (fun hn => by
            have h9 := hcl (by omega)
            have h8 : sk_al rl R A0 n0 n0 := fun x hx => h9.2 x (by omega)
            exact sk_end hok h9.1 h8) hZ (lv_sub hl [0, 1] rfl)
        · refine lv_iconst (v := nI 3) hx_ hb_ d_Table_findAll_51 (by decide) ?_
          refine lv_istore_n (i := 3) (lv' := [(3, .int (nI 3)), (0, .ref (zz_ad (xg_G q) 25)), (1, .ref (zz_ad (xg_G q) 1)), (2, .int (nI i))]) hx_ hb_ d_Table_findAll_52 rfl hl (by decide) rfl (fun ls hl => ?_)
          refine L53 i 3 So _ _ ?_ _ _ _ (by omega) (by omega) ho hT0 hG0 hcl (fun _ o2 h3 h4 => absurd h4 (by omega)) hZ (lv_sub hl [1, 2, 3, 0] rfl)
          · intro So A0 n0 H locs ls hin ho hT0 hG0 hcl hc1 hZ hl
            refine lv_iconst (v := nI 0) hx_ hb_ d_Table_findAll_80 (by decide) ?_
            refine lv_istore_n (i := 3) (lv' := [(3, .int (nI 0)), (0, .ref (zz_ad (xg_G q) 25)), (1, .ref (zz_ad (xg_G q) 1)), (2, .int (nI i))]) hx_ hb_ d_Table_findAll_81 rfl hl (by decide) rfl (fun ls hl => ?_)
            refine L82 i 0 So _ _ ?_ _ _ _ hin (Nat.zero_le _) ho hT0 hG0 hcl (fun hn => ⟨hc1 hn, fun o2 h5 h8 y hy => absurd hy (Nat.not_lt_zero y)⟩) hZ (lv_sub hl [1, 2, 3, 0] rfl)
            · intro So A0 n0 H locs ls hin ho hT0 hG0 hcl hc1 hZ hl
              refine lv_iinc (k := 2) (v := nI (i + 1)) (lv' := [(2, .int (nI (i + 1))), (0, .ref (zz_ad (xg_G q) 25)), (1, .ref (zz_ad (xg_G q) 1))]) hx_ hb_ d_Table_findAll_100 hl rfl (nI_add _ 1) (by decide) rfl (fun ls hl => ?_)
              refine lv_goto (tgt := 34) hx_ hb_ d_Table_findAll_103 (by decide) ?_
              exact ih_ _ (by omega) (i + 1) So _ _  _ _ _ (by omega) ho hT0 hG0 (fun hn => ⟨(hcl hn).1, fun x hx => by
                by_cases e : x = i
                · subst e
                  exact ⟨(hc1 hn).1, (hc1 hn).2⟩
                · exact (hcl hn).2 x (by omega)⟩) hZ (lv_sub hl [1, 2, 0] rfl) rfl
  have L34 : ∀ (i : Nat) (So : zz_S) (A0 : Nat → ns_St) (n0 : Nat) (H : Heap) (locs : List Loc) (ls : Array Slot) (hi : i ≤ n0) (ho : zz_off xt_X S So) (hT0 : xt_ok So A0 n0) (hG0 : xt_gd rl R A0 n0) (hcl : n0 < 41 → sk_c0 rl R A0 n0 3 ∧ sk_al rl R A0 n0 i) (hZ : zz_Z (xg_G q) So s_.heap H locs) (hl : lv_has ls 4 [(0, .ref (zz_ad (xg_G q) 25)), (1, .ref (zz_ad (xg_G q) 1)), (2, .int (nI i))]), W p_ l e_ rm_Table_findAll s_ m_ ([.ref (zz_ad (xg_G q) 25), .ref (zz_ad (xg_G q) 1)] : List Value).toArray bl_ mt_ c_ H locs 0 0 (MQ bl_ (va_Qv (fun S1 => zz_off xt_X S S1 ∧ ns_ans rl R (S1.1 25 3)) (zz_P (xg_G q)) (zz_A (xg_G q))) ([.ref (zz_ad (xg_G q) 25), .ref (zz_ad (xg_G q) 1)] : List Value).toArray s_ 0 0 (zz_A (xg_G q))) (F0 m_ 34 ls []) := fun i So A0 n0 H locs ls hi ho hT0 hG0 hcl hZ hl => L34_ _ i So A0 n0 H locs ls hi ho hT0 hG0 hcl hZ hl rfl
  have L7_ : ∀ (n_ : Nat) (o : Nat) (So : zz_S) (A0 : Nat → ns_St) (n0 : Nat) (H : Heap) (locs : List Loc) (ls : Array Slot) (ho3 : o ≤ 3) (ho : zz_off xt_X S So) (hT0 : xt_ok So A0 n0) (hG0 : xt_gd rl R A0 n0) (hcl : n0 < 41 → sk_c0 rl R A0 n0 o) (hZ : zz_Z (xg_G q) So s_.heap H locs) (hl : lv_has ls 4 [(0, .ref (zz_ad (xg_G q) 25)), (1, .ref (zz_ad (xg_G q) 1)), (2, .int (nI o))]) (hn_ : 3 - o = n_), W p_ l e_ rm_Table_findAll s_ m_ ([.ref (zz_ad (xg_G q) 25), .ref (zz_ad (xg_G q) 1)] : List Value).toArray bl_ mt_ c_ H locs 0 0 (MQ bl_ (va_Qv (fun S1 => zz_off xt_X S S1 ∧ ns_ans rl R (S1.1 25 3)) (zz_P (xg_G q)) (zz_A (xg_G q))) ([.ref (zz_ad (xg_G q) 25), .ref (zz_ad (xg_G q) 1)] : List Value).toArray s_ 0 0 (zz_A (xg_G q))) (F0 m_ 7 ls []) := by
    intro n_
    induction n_ using Nat.strongRecOn with
    | ind n_ ih_ =>
      intro o So A0 n0 H locs ls ho3 ho hT0 hG0 hcl hZ hl hn_
      have hn1 := hT0.2.1
      have hN0 : ∀ k, k < 4 → So.2 (42 + 3 * 41 + 1) k = vw_c 0 := fun k hk => by
        rw [(ho (42 + 3 * 41 + 1) (by omega)).2]
        exact hN k hk
      refine lv_iload_n hx_ hb_ d_Table_findAll_7 rfl (lv_at hl 2 rfl) ?_
      refine lv_iconst (v := nI 2) hx_ hb_ d_Table_findAll_8 (by decide) ?_
      refine zz_jgt (tgt := 32) hC d_Table_findAll_9 (by decide) (by omega) (by omega) (fun h9 => ?_) (fun h9 => ?_)
      · refine lv_iconst (v := nI 0) hx_ hb_ d_Table_findAll_32 (by decide) ?_
        refine lv_istore_n (i := 2) (lv' := [(2, .int (nI 0)), (0, .ref (zz_ad (xg_G q) 25)), (1, .ref (zz_ad (xg_G q) 1))]) hx_ hb_ d_Table_findAll_33 rfl hl (by decide) rfl (fun ls hl => ?_)
        exact L34 0 So _ _  _ _ _ (Nat.zero_le _) ho hT0 hG0 (fun hn => ⟨by rw [show o = 3 by omega] at hcl; exact hcl hn, fun x hx => absurd hx (Nat.not_lt_zero x)⟩) hZ (lv_sub hl [1, 2, 0] rfl)
      · have hkd := sk_kd0 (show o < 3 by omega)
        refine lv_aload_n hx_ hb_ d_Table_findAll_12 rfl (lv_at hl 0 rfl) ?_
        refine lv_aload_n hx_ hb_ d_Table_findAll_13 rfl (lv_at hl 1 rfl) ?_
        refine lv_iload_n hx_ hb_ d_Table_findAll_14 rfl (lv_at hl 2 rfl) ?_
        refine lv_aload_n hx_ hb_ d_Table_findAll_15 rfl (lv_at hl 0 rfl) ?_
        refine zz_get hC hK hZ 25 1 (Nat.le_of_ble_eq_true rfl) (xc_25 q _ _) rfl hin_Table (by decide) wd_162 rfl rfl d_Table_findAll_16 ?_
        refine lv_aload_n hx_ hb_ d_Table_findAll_19 rfl (lv_at hl 0 rfl) ?_
        refine zz_get hC hK hZ 25 1 (Nat.le_of_ble_eq_true rfl) (xc_25 q _ _) rfl hin_Table (by decide) wd_162 rfl rfl d_Table_findAll_20 ?_
        refine zz_cv (zz_rV (As := [.ref (zz_ad (xg_G q) 1), .int (nI o), .ref (zz_ad (xg_G q) (42 + 3 * 41)), .ref (zz_ad (xg_G q) (42 + 3 * 41))]) (rest := []) hC hK hZ 25 (c_Table_look l q So o 41 41 n0 A0 ((0, 0, 0, 0), (0, 0, 0, 0)) ((0, 0, 0, 0), (0, 0, 0, 0)) (by omega) (by omega) (by omega) rl R sz nb (sk_bk hB ho) hT0 hG0 (fun _ => 0) (fun _ => 0) hN0 hN0 (fun _ _ _ => rfl) (fun _ _ _ => rfl) (fun h => absurd h (by omega)) (fun h => absurd h (by omega)) (Or.inl (by omega)) sk_zM sk_zM) k_Table_look (Nat.le_of_ble_eq_true rfl) (xc_25 q _ _) rfl wd_290 ⟨rfl, rfl, by decide, by decide⟩ rfl hl.1 rfl (Nat.le_of_ble_eq_true rfl) d_Table_findAll_23 ⟨Nat.zero_le _, Nat.zero_le _⟩) hZ (fun S23 H locs hp23 hZ => ?_)
        obtain ⟨hoa, hfa, Aa, na, hea, hTa, hGa, hca⟩ := hp23
        refine lv_iinc (k := 2) (v := nI (o + 1)) (lv' := [(2, .int (nI (o + 1))), (0, .ref (zz_ad (xg_G q) 25)), (1, .ref (zz_ad (xg_G q) 1))]) hx_ hb_ d_Table_findAll_26 hl rfl (nI_add _ 1) (by decide) rfl (fun ls hl => ?_)
        refine lv_goto (tgt := 7) hx_ hb_ d_Table_findAll_29 (by decide) ?_
        exact ih_ _ (by omega) (o + 1) S23 _ _  _ _ _ (by omega) (zz_off_tr ho hoa) hTa hGa (fun hn o2 h1 h2 a b c hx => by
          have hn0 := hea.1
          by_cases e : o2 = o
          · subst e
            exact hca hn c (sk_irr hok (fun h => absurd h (by omega)) (fun h => absurd h (by omega)) hx)
          · exact sk_has_ex hea (hcl (by omega) o2 (by omega) h2 a b c hx)) hZ (lv_sub hl [1, 2, 0] rfl) rfl
  have L7 : ∀ (o : Nat) (So : zz_S) (A0 : Nat → ns_St) (n0 : Nat) (H : Heap) (locs : List Loc) (ls : Array Slot) (ho3 : o ≤ 3) (ho : zz_off xt_X S So) (hT0 : xt_ok So A0 n0) (hG0 : xt_gd rl R A0 n0) (hcl : n0 < 41 → sk_c0 rl R A0 n0 o) (hZ : zz_Z (xg_G q) So s_.heap H locs) (hl : lv_has ls 4 [(0, .ref (zz_ad (xg_G q) 25)), (1, .ref (zz_ad (xg_G q) 1)), (2, .int (nI o))]), W p_ l e_ rm_Table_findAll s_ m_ ([.ref (zz_ad (xg_G q) 25), .ref (zz_ad (xg_G q) 1)] : List Value).toArray bl_ mt_ c_ H locs 0 0 (MQ bl_ (va_Qv (fun S1 => zz_off xt_X S S1 ∧ ns_ans rl R (S1.1 25 3)) (zz_P (xg_G q)) (zz_A (xg_G q))) ([.ref (zz_ad (xg_G q) 25), .ref (zz_ad (xg_G q) 1)] : List Value).toArray s_ 0 0 (zz_A (xg_G q))) (F0 m_ 7 ls []) := fun o So A0 n0 H locs ls ho3 ho hT0 hG0 hcl hZ hl => L7_ _ o So A0 n0 H locs ls ho3 ho hT0 hG0 hcl hZ hl rfl
  refine lv_aload_n hx_ hb_ d_Table_findAll_0 rfl (lv_at hl 0 rfl) ?_
  refine lv_iconst (v := nI 0) hx_ hb_ d_Table_findAll_1 (by decide) ?_
  refine zz_put hC hK hZ 25 2 (Nat.le_of_ble_eq_true rfl) (xc_25 q _ _) rfl hin_Table t_Table t_Table_ok n_Table (by decide) wd_163 rfl rfl rfl (Nat.le_of_ble_eq_true rfl) rfl d_Table_findAll_2 (fun H locs hZ => ?_)
  refine lv_iconst (v := nI 0) hx_ hb_ d_Table_findAll_5 (by decide) ?_
  refine lv_istore_n (i := 2) (lv' := [(2, .int (nI 0)), (0, .ref (zz_ad (xg_G q) 25)), (1, .ref (zz_ad (xg_G q) 1))]) hx_ hb_ d_Table_findAll_6 rfl hl (by decide) rfl (fun ls hl => ?_)
  exact L7 0 (zz_u S 25 2 (nI 0)) _ _  _ _ _ (by omega) (fun d hd => ⟨zz_u1 S 25 2 _ d (fun h => hd (Or.inl h)), rfl⟩) (⟨rfl, by omega, fun i hi => absurd hi (Nat.not_lt_zero i)⟩ : xt_ok _ (fun _ => ((0, 0, 0, 0), (0, 0, 0, 0))) 0) ⟨fun i hi => absurd hi (Nat.not_lt_zero i), fun i j hi => absurd hi (Nat.not_lt_zero i), fun i hi => absurd hi (Nat.not_lt_zero i)⟩ (fun _ o2 h => absurd h (Nat.not_lt_zero o2)) hZ (lv_sub hl [1, 2, 0] rfl)
end
section
/-! Labels of the nodes, and the values of trees. -/
theorem tr_all {op sz : Nat → Nat} {m fm : Nat} (ht : tr_ok op sz m) (hm : 0 < m) (hf : fm + sz (m - 1) = m) : ∀ d x, x + d = m → fm ≤ x → ∃ L, tr_fr sz (fun _ => True) fm x L := by
  intro d
  induction d with
  | zero =>
    intro x hx hfx
    refine ⟨[m - 1], ?_⟩
    have : x = m := by omega
    subst this
    exact ⟨by omega, by omega, trivial, by show x - sz (x - 1) = fm; omega⟩
  | succ d ih =>
    intro x hx hfx
    obtain ⟨L, hL⟩ := ih (x + 1) (by omega) (by omega)
    exact tr_fr_step ht (by omega) hL (by omega) (fun _ => trivial) (fun _ => ⟨trivial, trivial⟩) (fun _ _ _ _ => trivial)
/-- every node of the top tree has its own tree within it -/
theorem tr_in {op sz : Nat → Nat} {m fm i : Nat} (ht : tr_ok op sz m) (hm : 0 < m) (hf : fm + sz (m - 1) = m) (h1 : fm ≤ i) (h2 : i < m) : fm + sz i ≤ i + 1 ∧ (0 < zz_kd (op i) → fm ≤ i - 1 ∧ 1 ≤ i ∧ fm ≤ tr_fa op sz i ∧ tr_fa op sz i < i) := by
  obtain ⟨L, hL⟩ := tr_all ht hm hf (m - (i + 1)) (i + 1) (by omega) (by omega)
  refine ⟨?_, (tr_kid ht h2 hL h1).2⟩
  cases L with
  | nil =>
    have hL : i + 1 = fm := hL
    omega
  | cons p L =>
    obtain ⟨a1, a2, a3, a4⟩ := hL
    have e : p = i := by omega
    rw [e] at a2
    omega
def xq_lab (rl : mx_R) (R : Nat) (op sz : Nat → Nat) (gs qs : Nat → Nat → Nat) (i : Nat) : Prop := mx_Lab rl R (op i) (gs (tr_fa op sz i)) (gs (i - 1)) (gs i) (qs i) ∧ ∀ k, k < 4 → gs i k < mx_far → gs i k + 36 ≤ 36 * 2 ^ (i + 1)
def xq_ok (S : zz_S) (rl : mx_R) (R : Nat) (op sz : Nat → Nat) (gs qs : Nat → Nat → Nat) (n : Nat) : Prop := ∀ i, i < n → xl_ok S i (gs i) (qs i) ∧ xq_lab rl R op sz gs qs i
abbrev xq_X : Nat → Prop := fun c => 42 ≤ c ∧ c < 162
theorem xq_up {gs : Nat → Nat → Nat} {i j : Nat} {g : Nat → Nat} (h : j ≠ i) : va_up gs i g j = gs j := by rw [va_up, if_neg h]
theorem xq_us {gs : Nat → Nat → Nat} {i : Nat} {g : Nat → Nat} : va_up gs i g i = g := by rw [va_up, if_pos rfl]
/-- one more node has its label -/
theorem xq_add {S S1 : zz_S} {rl : mx_R} {R : Nat} {op sz : Nat → Nat} {gs qs : Nat → Nat → Nat} {i m : Nat} {g y : Nat → Nat} (hok : mx_ok rl R) (ht : tr_ok op sz m) (hi : i < m) (h : xq_ok S rl R op sz gs qs i) (ho : zz_off (xl_X i) S S1) (hx : xl_ok S1 i g y) (hl : mx_Lab rl R (op i) (gs (tr_fa op sz i)) (gs (i - 1)) g y) (hb : ∀ k, k < 4 → g k < mx_far → g k + 36 ≤ 36 * 2 ^ (i + 1)) : xq_ok S1 rl R op sz (va_up gs i g) (va_up qs i y) (i + 1) := by
  intro j hj
  obtain ⟨t1, t2, t3, t4, t5, t6⟩ := ht j (by omega)
  have hkid : 0 < zz_kd (op j) → tr_fa op sz j ≠ i ∧ j - 1 ≠ i := fun hk => by
    rcases tr_kd (op j) with h0 | h0 | h0
    · omega
    · have := t5 h0
      rw [tr_fa, if_neg (by omega)]
      omega
    · have := t6 h0
      rw [tr_fa, if_pos h0]
      omega
  by_cases e : j = i
  · subst e
    rw [xq_us, xq_us]
    refine ⟨hx, ?_, by rw [xq_us]; exact hb⟩
    rw [xq_us, xq_us]
    refine sk_lab hok (fun hk k _ => ?_) (fun hk k _ => ?_) hl
    · rw [xq_up (hkid hk).1]
    · rw [xq_up (hkid (by omega)).2]
  · rw [xq_up e, xq_up e]
    obtain ⟨h1, h2, h3⟩ := h j (by omega)
    refine ⟨fun k hk => ?_, ?_, by rw [xq_up e]; exact h3⟩
    · rw [(ho (42 + 3 * j + 1) (fun h => by rcases h with h | h <;> omega)).2, (ho (42 + 3 * j + 2) (fun h => by rcases h with h | h <;> omega)).1]
      exact h1 k hk
    · rw [xq_up e, xq_up e]
      refine sk_lab hok (fun hk k _ => ?_) (fun hk k _ => ?_) h2
      · rw [xq_up (hkid hk).1]
      · rw [xq_up (hkid (by omega)).2]
/-- labels are what the rules give them: two rows of them agree -/
theorem xq_uniq {rl : mx_R} {R : Nat} {op sz : Nat → Nat} {gs qs gs' qs' : Nat → Nat → Nat} {m a : Nat} (hok : mx_ok rl R) (ht : tr_ok op sz m) (h : ∀ i, a ≤ i → i < m → xq_lab rl R op sz gs qs i) (h' : ∀ i, a ≤ i → i < m → xq_lab rl R op sz gs' qs' i) (hin : ∀ i, a ≤ i → i < m → 0 < zz_kd (op i) → a ≤ i - 1 ∧ 1 ≤ i ∧ a ≤ tr_fa op sz i ∧ tr_fa op sz i < i) : ∀ i, a ≤ i → i < m → ∀ k, k < 4 → gs i k = gs' i k ∧ qs i k = qs' i k := by
  intro i
  induction i using Nat.strongRecOn with
  | ind i ih =>
    intro h1 h2 k hk
    have hi := hin i h1 h2
    have e1 : 0 < zz_kd (op i) → ∀ k, k < 4 → gs (tr_fa op sz i) k = gs' (tr_fa op sz i) k := fun hk0 k hk => (ih _ (hi hk0).2.2.2 (hi hk0).2.2.1 (by have := (hi hk0).2.2.2; omega) k hk).1
    have e2 : 1 < zz_kd (op i) → ∀ k, k < 4 → gs (i - 1) k = gs' (i - 1) k := fun hk0 k hk => (ih (i - 1) (by have := (hi (by omega)).2.1; omega) (hi (by omega)).1 (by omega) k hk).1
    exact mx_lab_uniq hok (sk_lab hok e1 e2 (h i h1 h2).1) (h' i h1 h2).1 k hk
/-- the values of the nodes -/
def xe_ok (vr : Nat → Int32) (op : Nat → Nat) (nu : Nat → Int32) (sz : Nat → Nat) (vl : Nat → Int32) (a b : Nat) : Prop := ∀ i, a ≤ i → i < b → vl i = ex_cal vr (op i) (nu i) (if 0 < zz_kd (op i) then vl (tr_fa op sz i) else 0) (if zz_kd (op i) = 2 then vl (i - 1) else 0)
def xn_ok (op : Nat → Nat) (nu : Nat → Int32) (m : Nat) : Prop := ∀ i, i < m → op i = 1 → nu i = nI (nu i).toNatClampNeg ∧ (nu i).toNatClampNeg < 8
theorem xq_keep {S S1 : zz_S} {rl : mx_R} {R : Nat} {op sz : Nat → Nat} {gs qs : Nat → Nat → Nat} {n : Nat} (h : xq_ok S rl R op sz gs qs n) (hn : n ≤ 40) (hk : ∀ c, 42 ≤ c → c < 162 → S1.1 c = S.1 c ∧ S1.2 c = S.2 c) : xq_ok S1 rl R op sz gs qs n := fun i hi => ⟨fun k hk4 => by
  rw [(hk (42 + 3 * i + 1) (by omega) (by omega)).2, (hk (42 + 3 * i + 2) (by omega) (by omega)).1]
  exact (h i hi).1 k hk4, (h i hi).2⟩
theorem ex_cv {vr vr' : Nat → Int32} {o : Nat} {v a b : Int32} (h : ∀ k, k < 8 → vr' k = vr k) (hv : o = 1 → v = nI v.toNatClampNeg ∧ v.toNatClampNeg < 8) : ex_cal vr' o v a b = ex_cal vr o v a b := by
  rw [ex_cal, ex_cal]
  split
  · rfl
  · split
    · rename_i h1
      exact h _ (hv h1).2
    · rfl
end
section
/-! Labels and values of the top tree. Laid by wip/whole/prog/p7.py. -/
set_option maxHeartbeats 4000000 in
set_option maxRecDepth 100000 in
theorem c_Pile_labelOf (l : Launch) (q : xg_T) (S : zz_S) (op : Nat → Nat) (nu : Nat → Int32) (sz ht : Nat → Nat) (m t : Nat) (hP : xp_ok S op nu sz ht m t) (rl : mx_R) (R : Nat) (sz1 : Nat → Nat) (nb : Nat → Nat → Nat) (hB : xb_ok S rl R sz1 nb) (gs qs : Nat → Nat → Nat) (n nd : Nat) (hn : S.1 18 9 = nI n) (hnm : n ≤ m) (hQ : xq_ok S rl R op sz gs qs n) (hN : ∀ k, k < 4 → S.2 (42 + 3 * 40 + 1) k = vw_c 0) (hnd : nd < if t = 0 then 0 else sz (m - 1)) : Met l y_Pile_labelOf (Cond.code y_Pile_labelOf b_Pile_labelOf 7 (some (.object "TreeCoverForge$Label")) :: zz_tbl) rm_Pile_labelOf (zz_Pc [.ref (zz_ad (xg_G q) 18), .ref (zz_ad (xg_G q) 1), .int (nI nd)] (xg_G q) S) (va_Qr (fun u : Nat × zz_S => (fun ans S1 => ans = 42 + 3 * (m - (if t = 0 then 0 else sz (m - 1)) + nd) ∧ ∃ (S0 : zz_S) (gs1 qs1 : Nat → Nat → Nat), zz_off xq_X S S0 ∧ S1 = zz_u S0 18 9 (nI m) ∧ xq_ok S1 rl R op sz gs1 qs1 m) u.1 u.2) (fun u a t => a = zz_ad (xg_G q) u.1 ∧ zz_P (xg_G q) u.2 t) (zz_A (xg_G q))) 0 0 (zz_A (xg_G q)) := by
  refine zz_met (by decide) (Nat.le_of_ble_eq_true rfl) ?_
  intro p_ e_ s_ m_ bl_ mt_ c_ ls hC hK hZ hl
  have hC : zz_C p_ s_ m_ _ mt_ c_ b_Pile_labelOf 7 (some (.object "TreeCoverForge$Label")) "TreeCoverForge$Pile" := hC
  have hx_ := hC.1
  have hb_ := hC.2.1
  have hl : lv_has ls 7 [(0, .ref (zz_ad (xg_G q) 18)), (1, .ref (zz_ad (xg_G q) 1)), (2, .int (nI nd))] := hl
  have hP0 := hP
  obtain ⟨hm, ht0, hm40, htm, harr, htr, hts⟩ := hP
  have hok := hB.2.2.1
  have hle : (if t = 0 then 0 else sz (m - 1)) ≤ m := by
    split
    · omega
    · have := (htr (m - 1) (by omega)).2.2.1
      omega
  have L5_ : ∀ (n_ : Nat) (i : Nat) (Si : zz_S) (gs1 : Nat → Nat → Nat) (qs1 : Nat → Nat → Nat) (H : Heap) (locs : List Loc) (ls : Array Slot) (hi : i ≤ m) (ho : zz_off xq_X S Si) (hx : xq_ok Si rl R op sz gs1 qs1 i) (hZ : zz_Z (xg_G q) Si s_.heap H locs) (hl : lv_has ls 7 [(0, .ref (zz_ad (xg_G q) 18)), (1, .ref (zz_ad (xg_G q) 1)), (2, .int (nI nd)), (3, .int (nI i))]) (hn_ : m - i = n_), W p_ l e_ rm_Pile_labelOf s_ m_ ([.ref (zz_ad (xg_G q) 18), .ref (zz_ad (xg_G q) 1), .int (nI nd)] : List Value).toArray bl_ mt_ c_ H locs 0 0 (MQ bl_ (va_Qr (fun u : Nat × zz_S => (fun ans S1 => ans = 42 + 3 * (m - (if t = 0 then 0 else sz (m - 1)) + nd) ∧ ∃ (S0 : zz_S) (gs1 qs1 : Nat → Nat → Nat), zz_off xq_X S S0 ∧ S1 = zz_u S0 18 9 (nI m) ∧ xq_ok S1 rl R op sz gs1 qs1 m) u.1 u.2) (fun u a t => a = zz_ad (xg_G q) u.1 ∧ zz_P (xg_G q) u.2 t) (zz_A (xg_G q))) ([.ref (zz_ad (xg_G q) 18), .ref (zz_ad (xg_G q) 1), .int (nI nd)] : List Value).toArray s_ 0 0 (zz_A (xg_G q))) (F0 m_ 5 ls []) := by
    intro n_
    induction n_ using Nat.strongRecOn with
    | ind n_ ih_ =>
      intro i Si gs1 qs1 H locs ls hi ho hx hZ hl hn_
      have hBi := xb_keep hB (fun c h1 h2 => (ho c (by omega)).1)
      have hPi : xp_ok Si op nu sz ht m t := by
        unfold xp_ok
        rw [(ho 18 (by omega)).1, (ho 19 (by omega)).1, (ho 20 (by omega)).1, (ho 21 (by omega)).1, (ho 22 (by omega)).1]
        exact hP0
      have hN0 : ∀ k, k < 4 → Si.2 (42 + 3 * 40 + 1) k = vw_c 0 := fun k hk => by
        rw [(ho (42 + 3 * 40 + 1) (by omega)).2]
        exact hN k hk
      have hlz : ∀ k, k < 4 → (fun _ => 0 : Nat → Nat) k < mx_far → (fun _ => 0 : Nat → Nat) k ≤ 36 * 2 ^ i - 36 := fun k _ _ => Nat.zero_le _
      refine lv_iload_n hx_ hb_ d_Pile_labelOf_5 rfl (lv_at hl 3 rfl) ?_
      refine lv_aload_n hx_ hb_ d_Pile_labelOf_6 rfl (lv_at hl 0 rfl) ?_
      refine zz_get hC hK hZ 18 7 (Nat.le_of_ble_eq_true rfl) (xc_18 q _ _) rfl hin_Pile (by decide) wd_125 rfl rfl d_Pile_labelOf_7 ?_
      refine zz_topi (y := nI m) hPi.1 ?_
      refine zz_jge (tgt := 104) hC d_Pile_labelOf_10 (by decide) (by omega) (by omega) (fun h10 => ?_) (fun h10 => ?_)
      · refine lv_aload_n hx_ hb_ d_Pile_labelOf_104 rfl (lv_at hl 0 rfl) ?_
        refine lv_aload_n hx_ hb_ d_Pile_labelOf_105 rfl (lv_at hl 0 rfl) ?_
        refine zz_get hC hK hZ 18 7 (Nat.le_of_ble_eq_true rfl) (xc_18 q _ _) rfl hin_Pile (by decide) wd_125 rfl rfl d_Pile_labelOf_106 ?_
        refine zz_topi (y := nI m) hPi.1 ?_
        refine zz_put hC hK hZ 18 9 (Nat.le_of_ble_eq_true rfl) (xc_18 q _ _) rfl hin_Pile t_Pile t_Pile_ok n_Pile (by decide) wd_130 rfl rfl rfl (Nat.le_of_ble_eq_true rfl) rfl d_Pile_labelOf_109 (fun H locs hZ => ?_)
        refine lv_aload_n hx_ hb_ d_Pile_labelOf_112 rfl (lv_at hl 0 rfl) ?_
        refine zz_get hC hK hZ 18 5 (Nat.le_of_ble_eq_true rfl) (xc_18 q _ _) rfl hin_Pile (by decide) wd_122 rfl rfl d_Pile_labelOf_113 ?_
        refine lv_aload_n hx_ hb_ d_Pile_labelOf_116 rfl (lv_at hl 0 rfl) ?_
        refine zz_ci (zz_rV (As := []) (rest := [.ref (zz_ad (xg_G q) 24)]) hC hK hZ 18 (c_Pile_topStart l q (zz_u Si 18 9 (nI m)) op nu sz ht m t (by
          unfold xp_ok
          exact hPi)) k_Pile_topStart (Nat.le_of_ble_eq_true rfl) (xc_18 q _ _) rfl wd_395 ⟨rfl, rfl, by decide, by decide⟩ rfl hl.1 rfl (Nat.le_of_ble_eq_true rfl) d_Pile_labelOf_117 ⟨Nat.zero_le _, Nat.zero_le _⟩) hZ (fun r117 S117 H locs hp117 hZ => ?_)
        obtain ⟨rfl, rfl⟩ := hp117
        refine lv_iload_n hx_ hb_ d_Pile_labelOf_120 rfl (lv_at hl 2 rfl) ?_
        refine lv_iadd hx_ hb_ d_Pile_labelOf_121 ?_
        refine zz_topi (y := nI ((m - (if t = 0 then 0 else sz (m - 1))) + nd)) (nI_add _ _) ?_
        refine zz_aald (q := (42 + 3 * ((m - (if t = 0 then 0 else sz (m - 1))) + nd))) hC hK hZ 24 2 ((m - (if t = 0 then 0 else sz (m - 1))) + nd) (Nat.le_of_ble_eq_true rfl) (xc_24 q _ _) rfl rfl rfl (by omega) (by decide) rfl d_Pile_labelOf_122 ?_
        exact zz_aret (post := fun ans S1 => ans = 42 + 3 * (m - (if t = 0 then 0 else sz (m - 1)) + nd) ∧ ∃ (S0 : zz_S) (gs1 qs1 : Nat → Nat → Nat), zz_off xq_X S S0 ∧ S1 = zz_u S0 18 9 (nI m) ∧ xq_ok S1 rl R op sz gs1 qs1 m) (q := (42 + 3 * ((m - (if t = 0 then 0 else sz (m - 1))) + nd))) hC hK hZ rfl d_Pile_labelOf_123 ⟨rfl, Si, gs1, qs1, ho, rfl, by
          rw [show m = i by omega]
          exact xq_keep hx (by omega) (fun c h1 h2 => ⟨zz_u1 Si 18 9 _ c (by omega), rfl⟩)⟩
      · have hai := hPi.2.2.2.2.1 i (by omega)
        obtain ⟨t1, t2, t3, t4, t5, t6⟩ := htr i (by omega)
        have hkd := tr_kd (op i)
        refine zz_garsN hC hK hZ wd_345 d_Pile_labelOf_13 ?_
        refine lv_aload_n hx_ hb_ d_Pile_labelOf_16 rfl (lv_at hl 0 rfl) ?_
        refine zz_get hC hK hZ 18 0 (Nat.le_of_ble_eq_true rfl) (xc_18 q _ _) rfl hin_Pile (by decide) wd_115 rfl rfl d_Pile_labelOf_17 ?_
        refine lv_iload_n hx_ hb_ d_Pile_labelOf_20 rfl (lv_at hl 3 rfl) ?_
        refine zz_iald hC hK hZ 19 0 i (Nat.le_of_ble_eq_true rfl) (xc_19 q _ _) rfl rfl (by omega) (by decide) rfl d_Pile_labelOf_21 ?_
        refine zz_topi (y := nI (op i)) hai.1 ?_
        refine zz_ari hC hK hZ (op i) rfl (by omega) d_Pile_labelOf_22 ?_
        refine lv_istore (i := 4) (lv' := [(4, .int (nI (zz_kd (op i)))), (0, .ref (zz_ad (xg_G q) 18)), (1, .ref (zz_ad (xg_G q) 1)), (2, .int (nI nd)), (3, .int (nI i))]) hx_ hb_ d_Pile_labelOf_23 hl (by decide) rfl (fun ls hl => ?_)
        refine lv_iload hx_ hb_ d_Pile_labelOf_25 (lv_at hl 0 rfl) ?_
        refine zz_ine (tgt := 37) hC d_Pile_labelOf_27 (by decide) (by omega) (fun h27 => ?_) (fun h27 => ?_)
        · have hfa : tr_fa op sz i < i ∧ 1 ≤ i ∧ (zz_kd (op i) = 2 → sz (i - 1) ≤ i - 1) := by
            rcases hkd with h0 | h0 | h0
            · omega
            · have := t5 h0
              rw [tr_fa, if_neg (by omega)]
              omega
            · have := t6 h0
              rw [tr_fa, if_pos h0]
              omega
          have hlk : ∀ k, k < 4 → gs1 (tr_fa op sz i) k < mx_far → gs1 (tr_fa op sz i) k ≤ 36 * 2 ^ i - 36 := fun k hk hf => by
            have h9 := (hx (tr_fa op sz i) (by omega)).2.2 k hk hf
            have h8 := Nat.pow_le_pow_right (n := 2) (by omega) (show (tr_fa op sz i) + 1 ≤ i by omega)
            omega
          have hrk : ∀ k, k < 4 → gs1 (i - 1) k < mx_far → gs1 (i - 1) k ≤ 36 * 2 ^ i - 36 := fun k hk hf => by
            have h9 := (hx (i - 1) (by omega)).2.2 k hk hf
            have h8 := Nat.pow_le_pow_right (n := 2) (by omega) (show (i - 1) + 1 ≤ i by omega)
            omega
          refine lv_aload_n hx_ hb_ d_Pile_labelOf_37 rfl (lv_at hl 1 rfl) ?_
          refine zz_get hC hK hZ 18 5 (Nat.le_of_ble_eq_true rfl) (xc_18 q _ _) rfl hin_Pile (by decide) wd_122 rfl rfl d_Pile_labelOf_38 ?_
          refine lv_aload_n hx_ hb_ d_Pile_labelOf_41 rfl (lv_at hl 1 rfl) ?_
          refine lv_iload_n hx_ hb_ d_Pile_labelOf_42 rfl (lv_at hl 4 rfl) ?_
          refine lv_aload_n hx_ hb_ d_Pile_labelOf_43 rfl (lv_at hl 1 rfl) ?_
          refine zz_get hC hK hZ 18 0 (Nat.le_of_ble_eq_true rfl) (xc_18 q _ _) rfl hin_Pile (by decide) wd_115 rfl rfl d_Pile_labelOf_44 ?_
          refine lv_iload_n hx_ hb_ d_Pile_labelOf_47 rfl (lv_at hl 4 rfl) ?_
          refine zz_iald hC hK hZ 19 0 i (Nat.le_of_ble_eq_true rfl) (xc_19 q _ _) rfl rfl (by omega) (by decide) rfl d_Pile_labelOf_48 ?_
          refine zz_topi (y := nI (op i)) hai.1 ?_
          refine zz_ci (zz_rV (As := [.int (nI i), .int (nI (op i))]) (rest := [.ref (zz_ad (xg_G q) 24)]) hC hK hZ 18 (c_Pile_firstKid l q Si op nu sz ht m t hPi i (op i) (by omega) (by omega) (by omega) hfa.2.2) k_Pile_firstKid (Nat.le_of_ble_eq_true rfl) (xc_18 q _ _) rfl wd_346 ⟨rfl, rfl, by decide, by decide⟩ rfl hl.1 rfl (Nat.le_of_ble_eq_true rfl) d_Pile_labelOf_49 ⟨Nat.zero_le _, Nat.zero_le _⟩) hZ (fun r49 S49 H locs hp49 hZ => ?_)
          obtain ⟨rfl, rfl⟩ := hp49
          refine zz_aald (q := (42 + 3 * (tr_fa op sz i))) hC hK hZ 24 2 (tr_fa op sz i) (Nat.le_of_ble_eq_true rfl) (xc_24 q _ _) rfl rfl rfl (by omega) (by decide) rfl d_Pile_labelOf_52 ?_
          refine lv_astore (i := 5) (lv' := [(5, .ref (zz_ad (xg_G q) (42 + 3 * (tr_fa op sz i)))), (4, .int (nI (zz_kd (op i)))), (0, .ref (zz_ad (xg_G q) 18)), (1, .ref (zz_ad (xg_G q) 1)), (2, .int (nI nd)), (3, .int (nI i))]) hx_ hb_ d_Pile_labelOf_53 hl (by decide) rfl (fun ls hl => ?_)
          refine lv_iload hx_ hb_ d_Pile_labelOf_55 (lv_at hl 1 rfl) ?_
          refine lv_iconst (v := nI 2) hx_ hb_ d_Pile_labelOf_57 (by decide) ?_
          refine zz_jne (tgt := 72) hC d_Pile_labelOf_58 (by decide) (by omega) (by omega) (fun h58 => ?_) (fun h58 => ?_)
          · refine lv_aload_n hx_ hb_ d_Pile_labelOf_72 rfl (lv_at hl 2 rfl) ?_
            refine zz_get hC hK hZ 18 6 (Nat.le_of_ble_eq_true rfl) (xc_18 q _ _) rfl hin_Pile (by decide) wd_124 rfl rfl d_Pile_labelOf_73 ?_
            refine lv_astore (i := 6) (lv' := [(6, .ref (zz_ad (xg_G q) (42 + 3 * 40))), (5, .ref (zz_ad (xg_G q) (42 + 3 * (tr_fa op sz i)))), (4, .int (nI (zz_kd (op i)))), (0, .ref (zz_ad (xg_G q) 18)), (1, .ref (zz_ad (xg_G q) 1)), (2, .int (nI nd)), (3, .int (nI i))]) hx_ hb_ d_Pile_labelOf_76 hl (by decide) rfl (fun ls hl => ?_)
            refine lv_aload_n hx_ hb_ d_Pile_labelOf_78 rfl (lv_at hl 3 rfl) ?_
            refine zz_get hC hK hZ 18 5 (Nat.le_of_ble_eq_true rfl) (xc_18 q _ _) rfl hin_Pile (by decide) wd_122 rfl rfl d_Pile_labelOf_79 ?_
            refine lv_iload_n hx_ hb_ d_Pile_labelOf_82 rfl (lv_at hl 6 rfl) ?_
            refine zz_aald (q := (42 + 3 * i)) hC hK hZ 24 2 i (Nat.le_of_ble_eq_true rfl) (xc_24 q _ _) rfl rfl rfl (by omega) (by decide) rfl d_Pile_labelOf_83 ?_
            refine lv_aload_n hx_ hb_ d_Pile_labelOf_84 rfl (lv_at hl 4 rfl) ?_
            refine lv_aload_n hx_ hb_ d_Pile_labelOf_85 rfl (lv_at hl 3 rfl) ?_
            refine zz_get hC hK hZ 18 0 (Nat.le_of_ble_eq_true rfl) (xc_18 q _ _) rfl hin_Pile (by decide) wd_115 rfl rfl d_Pile_labelOf_86 ?_
            refine lv_iload_n hx_ hb_ d_Pile_labelOf_89 rfl (lv_at hl 6 rfl) ?_
            refine zz_iald hC hK hZ 19 0 i (Nat.le_of_ble_eq_true rfl) (xc_19 q _ _) rfl rfl (by omega) (by decide) rfl d_Pile_labelOf_90 ?_
            refine zz_topi (y := nI (op i)) hai.1 ?_
            refine lv_aload hx_ hb_ d_Pile_labelOf_91 (lv_at hl 1 rfl) ?_
            refine lv_aload hx_ hb_ d_Pile_labelOf_93 (lv_at hl 0 rfl) ?_
            refine zz_cv (zz_rV (As := [.ref (zz_ad (xg_G q) 1), .int (nI (op i)), .ref (zz_ad (xg_G q) (42 + 3 * (tr_fa op sz i))), .ref (zz_ad (xg_G q) (42 + 3 * 40))]) (rest := []) hC hK hZ (42 + 3 * i) (c_Label_derive l q Si i (op i) (tr_fa op sz i) 40 (by omega) (by omega) (by omega) (by omega) (by omega) (by omega) rl R sz1 nb hBi (gs1 (tr_fa op sz i)) (fun _ => 0) (36 * 2 ^ i - 36) (by have := xt_pow (n := i) (by omega); omega) hlk hlz (fun k hk => ((hx (tr_fa op sz i) (by omega)).1 k hk).1) hN0 (fun h => absurd h (by omega)) (fun _ _ _ => rfl)) k_Label_derive (by show _ < 291; omega) (xy_lab q i _ _) rfl wd_394 ⟨rfl, rfl, by decide, by decide⟩ rfl hl.1 rfl (Nat.le_of_ble_eq_true rfl) d_Pile_labelOf_95 ⟨Nat.zero_le _, Nat.zero_le _⟩) hZ (fun S95 H locs hp95 hZ => ?_)
            have hLab := mp_cls (lf := (gs1 (tr_fa op sz i))) (rt := (fun _ => 0)) hok (show op i < 8 by omega)
            refine lv_iinc (k := 6) (v := nI (i + 1)) (lv' := [(3, .int (nI (i + 1))), (6, .ref (zz_ad (xg_G q) (42 + 3 * 40))), (5, .ref (zz_ad (xg_G q) (42 + 3 * (tr_fa op sz i)))), (4, .int (nI (zz_kd (op i)))), (0, .ref (zz_ad (xg_G q) 18)), (1, .ref (zz_ad (xg_G q) 1)), (2, .int (nI nd))]) hx_ hb_ d_Pile_labelOf_98 hl rfl (nI_add _ 1) (by decide) rfl (fun ls hl => ?_)
            refine lv_goto (tgt := 5) hx_ hb_ d_Pile_labelOf_101 (by decide) ?_
            exact ih_ _ (by omega) (i + 1) S95 _ _  _ _ _ (by omega) (zz_off_tr ho (zz_off_mono hp95.1 (fun c h => by rcases h with h | h <;> omega))) (xq_add hok htr (by omega) hx hp95.1 hp95.2 (sk_lab hok (fun hk k hk4 => by first | (exact absurd h27 (by omega)) | rfl) (fun hk k hk4 => by first | (exact absurd hk (by omega)) | rfl) hLab) (fun k hk hf => by
              have h9 := ns_bound hok hLab.1 (M := 36 * 2 ^ i - 36) (hlk) (hlz) k hk hf
              have h2 : 1 ≤ 2 ^ i := Nat.one_le_two_pow
              rw [Nat.pow_succ]
              omega)) hZ (lv_sub hl [4, 5, 6, 0] rfl) rfl
          · refine lv_aload_n hx_ hb_ d_Pile_labelOf_61 rfl (lv_at hl 2 rfl) ?_
            refine zz_get hC hK hZ 18 5 (Nat.le_of_ble_eq_true rfl) (xc_18 q _ _) rfl hin_Pile (by decide) wd_122 rfl rfl d_Pile_labelOf_62 ?_
            refine lv_iload_n hx_ hb_ d_Pile_labelOf_65 rfl (lv_at hl 5 rfl) ?_
            refine lv_iconst (v := nI 1) hx_ hb_ d_Pile_labelOf_66 (by decide) ?_
            refine lv_isub hx_ hb_ d_Pile_labelOf_67 ?_
            refine zz_topi (y := nI (i - 1)) (pk_sub (by omega)) ?_
            refine zz_aald (q := (42 + 3 * (i - 1))) hC hK hZ 24 2 (i - 1) (Nat.le_of_ble_eq_true rfl) (xc_24 q _ _) rfl rfl rfl (by omega) (by decide) rfl d_Pile_labelOf_68 ?_
            refine lv_goto (tgt := 76) hx_ hb_ d_Pile_labelOf_69 (by decide) ?_
            refine lv_astore (i := 6) (lv' := [(6, .ref (zz_ad (xg_G q) (42 + 3 * (i - 1)))), (5, .ref (zz_ad (xg_G q) (42 + 3 * (tr_fa op sz i)))), (4, .int (nI (zz_kd (op i)))), (0, .ref (zz_ad (xg_G q) 18)), (1, .ref (zz_ad (xg_G q) 1)), (2, .int (nI nd)), (3, .int (nI i))]) hx_ hb_ d_Pile_labelOf_76 hl (by decide) rfl (fun ls hl => ?_)
            refine lv_aload_n hx_ hb_ d_Pile_labelOf_78 rfl (lv_at hl 3 rfl) ?_
            refine zz_get hC hK hZ 18 5 (Nat.le_of_ble_eq_true rfl) (xc_18 q _ _) rfl hin_Pile (by decide) wd_122 rfl rfl d_Pile_labelOf_79 ?_
            refine lv_iload_n hx_ hb_ d_Pile_labelOf_82 rfl (lv_at hl 6 rfl) ?_
            refine zz_aald (q := (42 + 3 * i)) hC hK hZ 24 2 i (Nat.le_of_ble_eq_true rfl) (xc_24 q _ _) rfl rfl rfl (by omega) (by decide) rfl d_Pile_labelOf_83 ?_
            refine lv_aload_n hx_ hb_ d_Pile_labelOf_84 rfl (lv_at hl 4 rfl) ?_
            refine lv_aload_n hx_ hb_ d_Pile_labelOf_85 rfl (lv_at hl 3 rfl) ?_
            refine zz_get hC hK hZ 18 0 (Nat.le_of_ble_eq_true rfl) (xc_18 q _ _) rfl hin_Pile (by decide) wd_115 rfl rfl d_Pile_labelOf_86 ?_
            refine lv_iload_n hx_ hb_ d_Pile_labelOf_89 rfl (lv_at hl 6 rfl) ?_
            refine zz_iald hC hK hZ 19 0 i (Nat.le_of_ble_eq_true rfl) (xc_19 q _ _) rfl rfl (by omega) (by decide) rfl d_Pile_labelOf_90 ?_
            refine zz_topi (y := nI (op i)) hai.1 ?_
            refine lv_aload hx_ hb_ d_Pile_labelOf_91 (lv_at hl 1 rfl) ?_
            refine lv_aload hx_ hb_ d_Pile_labelOf_93 (lv_at hl 0 rfl) ?_
            refine zz_cv (zz_rV (As := [.ref (zz_ad (xg_G q) 1), .int (nI (op i)), .ref (zz_ad (xg_G q) (42 + 3 * (tr_fa op sz i))), .ref (zz_ad (xg_G q) (42 + 3 * (i - 1)))]) (rest := []) hC hK hZ (42 + 3 * i) (c_Label_derive l q Si i (op i) (tr_fa op sz i) (i - 1) (by omega) (by omega) (by omega) (by omega) (by omega) (by omega) rl R sz1 nb hBi (gs1 (tr_fa op sz i)) (gs1 (i - 1)) (36 * 2 ^ i - 36) (by have := xt_pow (n := i) (by omega); omega) hlk hrk (fun k hk => ((hx (tr_fa op sz i) (by omega)).1 k hk).1) (fun k hk => ((hx (i - 1) (by omega)).1 k hk).1) (fun h => absurd h (by omega)) (fun h => absurd h (by omega))) k_Label_derive (by show _ < 291; omega) (xy_lab q i _ _) rfl wd_394 ⟨rfl, rfl, by decide, by decide⟩ rfl hl.1 rfl (Nat.le_of_ble_eq_true rfl) d_Pile_labelOf_95 ⟨Nat.zero_le _, Nat.zero_le _⟩) hZ (fun S95 H locs hp95 hZ => ?_)
            have hLab := mp_cls (lf := (gs1 (tr_fa op sz i))) (rt := (gs1 (i - 1))) hok (show op i < 8 by omega)
            refine lv_iinc (k := 6) (v := nI (i + 1)) (lv' := [(3, .int (nI (i + 1))), (6, .ref (zz_ad (xg_G q) (42 + 3 * (i - 1)))), (5, .ref (zz_ad (xg_G q) (42 + 3 * (tr_fa op sz i)))), (4, .int (nI (zz_kd (op i)))), (0, .ref (zz_ad (xg_G q) 18)), (1, .ref (zz_ad (xg_G q) 1)), (2, .int (nI nd))]) hx_ hb_ d_Pile_labelOf_98 hl rfl (nI_add _ 1) (by decide) rfl (fun ls hl => ?_)
            refine lv_goto (tgt := 5) hx_ hb_ d_Pile_labelOf_101 (by decide) ?_
            exact ih_ _ (by omega) (i + 1) S95 _ _  _ _ _ (by omega) (zz_off_tr ho (zz_off_mono hp95.1 (fun c h => by rcases h with h | h <;> omega))) (xq_add hok htr (by omega) hx hp95.1 hp95.2 (sk_lab hok (fun hk k hk4 => by first | (exact absurd h27 (by omega)) | rfl) (fun hk k hk4 => by first | (exact absurd hk (by omega)) | rfl) hLab) (fun k hk hf => by
              have h9 := ns_bound hok hLab.1 (M := 36 * 2 ^ i - 36) (hlk) (hrk) k hk hf
              have h2 : 1 ≤ 2 ^ i := Nat.one_le_two_pow
              rw [Nat.pow_succ]
              omega)) hZ (lv_sub hl [4, 5, 6, 0] rfl) rfl
        · refine lv_aload_n hx_ hb_ d_Pile_labelOf_30 rfl (lv_at hl 1 rfl) ?_
          refine zz_get hC hK hZ 18 6 (Nat.le_of_ble_eq_true rfl) (xc_18 q _ _) rfl hin_Pile (by decide) wd_124 rfl rfl d_Pile_labelOf_31 ?_
          refine lv_goto (tgt := 53) hx_ hb_ d_Pile_labelOf_34 (by decide) ?_
          refine lv_astore (i := 5) (lv' := [(5, .ref (zz_ad (xg_G q) (42 + 3 * 40))), (4, .int (nI (zz_kd (op i)))), (0, .ref (zz_ad (xg_G q) 18)), (1, .ref (zz_ad (xg_G q) 1)), (2, .int (nI nd)), (3, .int (nI i))]) hx_ hb_ d_Pile_labelOf_53 hl (by decide) rfl (fun ls hl => ?_)
          refine lv_iload hx_ hb_ d_Pile_labelOf_55 (lv_at hl 1 rfl) ?_
          refine lv_iconst (v := nI 2) hx_ hb_ d_Pile_labelOf_57 (by decide) ?_
          refine zz_jne (tgt := 72) hC d_Pile_labelOf_58 (by decide) (by omega) (by omega) (fun h58 => ?_) (fun h58 => ?_)
          · refine lv_aload_n hx_ hb_ d_Pile_labelOf_72 rfl (lv_at hl 2 rfl) ?_
            refine zz_get hC hK hZ 18 6 (Nat.le_of_ble_eq_true rfl) (xc_18 q _ _) rfl hin_Pile (by decide) wd_124 rfl rfl d_Pile_labelOf_73 ?_
            refine lv_astore (i := 6) (lv' := [(6, .ref (zz_ad (xg_G q) (42 + 3 * 40))), (5, .ref (zz_ad (xg_G q) (42 + 3 * 40))), (4, .int (nI (zz_kd (op i)))), (0, .ref (zz_ad (xg_G q) 18)), (1, .ref (zz_ad (xg_G q) 1)), (2, .int (nI nd)), (3, .int (nI i))]) hx_ hb_ d_Pile_labelOf_76 hl (by decide) rfl (fun ls hl => ?_)
            refine lv_aload_n hx_ hb_ d_Pile_labelOf_78 rfl (lv_at hl 3 rfl) ?_
            refine zz_get hC hK hZ 18 5 (Nat.le_of_ble_eq_true rfl) (xc_18 q _ _) rfl hin_Pile (by decide) wd_122 rfl rfl d_Pile_labelOf_79 ?_
            refine lv_iload_n hx_ hb_ d_Pile_labelOf_82 rfl (lv_at hl 6 rfl) ?_
            refine zz_aald (q := (42 + 3 * i)) hC hK hZ 24 2 i (Nat.le_of_ble_eq_true rfl) (xc_24 q _ _) rfl rfl rfl (by omega) (by decide) rfl d_Pile_labelOf_83 ?_
            refine lv_aload_n hx_ hb_ d_Pile_labelOf_84 rfl (lv_at hl 4 rfl) ?_
            refine lv_aload_n hx_ hb_ d_Pile_labelOf_85 rfl (lv_at hl 3 rfl) ?_
            refine zz_get hC hK hZ 18 0 (Nat.le_of_ble_eq_true rfl) (xc_18 q _ _) rfl hin_Pile (by decide) wd_115 rfl rfl d_Pile_labelOf_86 ?_
            refine lv_iload_n hx_ hb_ d_Pile_labelOf_89 rfl (lv_at hl 6 rfl) ?_
            refine zz_iald hC hK hZ 19 0 i (Nat.le_of_ble_eq_true rfl) (xc_19 q _ _) rfl rfl (by omega) (by decide) rfl d_Pile_labelOf_90 ?_
            refine zz_topi (y := nI (op i)) hai.1 ?_
            refine lv_aload hx_ hb_ d_Pile_labelOf_91 (lv_at hl 1 rfl) ?_
            refine lv_aload hx_ hb_ d_Pile_labelOf_93 (lv_at hl 0 rfl) ?_
            refine zz_cv (zz_rV (As := [.ref (zz_ad (xg_G q) 1), .int (nI (op i)), .ref (zz_ad (xg_G q) (42 + 3 * 40)), .ref (zz_ad (xg_G q) (42 + 3 * 40))]) (rest := []) hC hK hZ (42 + 3 * i) (c_Label_derive l q Si i (op i) 40 40 (by omega) (by omega) (by omega) (by omega) (by omega) (by omega) rl R sz1 nb hBi (fun _ => 0) (fun _ => 0) (36 * 2 ^ i - 36) (by have := xt_pow (n := i) (by omega); omega) hlz hlz hN0 hN0 (fun _ _ _ => rfl) (fun _ _ _ => rfl)) k_Label_derive (by show _ < 291; omega) (xy_lab q i _ _) rfl wd_394 ⟨rfl, rfl, by decide, by decide⟩ rfl hl.1 rfl (Nat.le_of_ble_eq_true rfl) d_Pile_labelOf_95 ⟨Nat.zero_le _, Nat.zero_le _⟩) hZ (fun S95 H locs hp95 hZ => ?_)
            have hLab := mp_cls (lf := (fun _ => 0)) (rt := (fun _ => 0)) hok (show op i < 8 by omega)
            refine lv_iinc (k := 6) (v := nI (i + 1)) (lv' := [(3, .int (nI (i + 1))), (6, .ref (zz_ad (xg_G q) (42 + 3 * 40))), (5, .ref (zz_ad (xg_G q) (42 + 3 * 40))), (4, .int (nI (zz_kd (op i)))), (0, .ref (zz_ad (xg_G q) 18)), (1, .ref (zz_ad (xg_G q) 1)), (2, .int (nI nd))]) hx_ hb_ d_Pile_labelOf_98 hl rfl (nI_add _ 1) (by decide) rfl (fun ls hl => ?_)
            refine lv_goto (tgt := 5) hx_ hb_ d_Pile_labelOf_101 (by decide) ?_
            exact ih_ _ (by omega) (i + 1) S95 _ _  _ _ _ (by omega) (zz_off_tr ho (zz_off_mono hp95.1 (fun c h => by rcases h with h | h <;> omega))) (xq_add hok htr (by omega) hx hp95.1 hp95.2 (sk_lab hok (fun hk k hk4 => by first | (exact absurd h27 (by omega)) | rfl) (fun hk k hk4 => by first | (exact absurd hk (by omega)) | rfl) hLab) (fun k hk hf => by
              have h9 := ns_bound hok hLab.1 (M := 36 * 2 ^ i - 36) (hlz) (hlz) k hk hf
              have h2 : 1 ≤ 2 ^ i := Nat.one_le_two_pow
              rw [Nat.pow_succ]
              omega)) hZ (lv_sub hl [4, 5, 6, 0] rfl) rfl
          · exact absurd h58 (by omega)
  have L5 : ∀ (i : Nat) (Si : zz_S) (gs1 : Nat → Nat → Nat) (qs1 : Nat → Nat → Nat) (H : Heap) (locs : List Loc) (ls : Array Slot) (hi : i ≤ m) (ho : zz_off xq_X S Si) (hx : xq_ok Si rl R op sz gs1 qs1 i) (hZ : zz_Z (xg_G q) Si s_.heap H locs) (hl : lv_has ls 7 [(0, .ref (zz_ad (xg_G q) 18)), (1, .ref (zz_ad (xg_G q) 1)), (2, .int (nI nd)), (3, .int (nI i))]), W p_ l e_ rm_Pile_labelOf s_ m_ ([.ref (zz_ad (xg_G q) 18), .ref (zz_ad (xg_G q) 1), .int (nI nd)] : List Value).toArray bl_ mt_ c_ H locs 0 0 (MQ bl_ (va_Qr (fun u : Nat × zz_S => (fun ans S1 => ans = 42 + 3 * (m - (if t = 0 then 0 else sz (m - 1)) + nd) ∧ ∃ (S0 : zz_S) (gs1 qs1 : Nat → Nat → Nat), zz_off xq_X S S0 ∧ S1 = zz_u S0 18 9 (nI m) ∧ xq_ok S1 rl R op sz gs1 qs1 m) u.1 u.2) (fun u a t => a = zz_ad (xg_G q) u.1 ∧ zz_P (xg_G q) u.2 t) (zz_A (xg_G q))) ([.ref (zz_ad (xg_G q) 18), .ref (zz_ad (xg_G q) 1), .int (nI nd)] : List Value).toArray s_ 0 0 (zz_A (xg_G q))) (F0 m_ 5 ls []) := fun i Si gs1 qs1 H locs ls hi ho hx hZ hl => L5_ _ i Si gs1 qs1 H locs ls hi ho hx hZ hl rfl
  refine lv_aload_n hx_ hb_ d_Pile_labelOf_0 rfl (lv_at hl 0 rfl) ?_
  refine zz_get hC hK hZ 18 9 (Nat.le_of_ble_eq_true rfl) (xc_18 q _ _) rfl hin_Pile (by decide) wd_130 rfl rfl d_Pile_labelOf_1 ?_
  refine zz_topi (y := nI n) hn ?_
  refine lv_istore_n (i := 3) (lv' := [(3, .int (nI n)), (0, .ref (zz_ad (xg_G q) 18)), (1, .ref (zz_ad (xg_G q) 1)), (2, .int (nI nd))]) hx_ hb_ d_Pile_labelOf_4 rfl hl (by decide) rfl (fun ls hl => ?_)
  exact L5 n S _ _  _ _ _ hnm zz_off_rf hQ hZ (lv_sub hl [1, 2, 3, 0] rfl)
set_option maxHeartbeats 4000000 in
set_option maxRecDepth 100000 in
theorem c_Pile_evaluateTop (l : Launch) (q : xg_T) (S : zz_S) (op : Nat → Nat) (nu : Nat → Int32) (sz ht : Nat → Nat) (m t : Nat) (hP : xp_ok S op nu sz ht m t) (vr : Nat → Int32) (hvr : ∀ k, k < 8 → S.1 41 k = vr k) (hnu : xn_ok op nu m) : Met l y_Pile_evaluateTop (Cond.code y_Pile_evaluateTop b_Pile_evaluateTop 6 (some .int) :: zz_tbl) rm_Pile_evaluateTop (zz_Pc [.ref (zz_ad (xg_G q) 18), .ref (zz_ad (xg_G q) 41)] (xg_G q) S) (va_Qi (fun ans S1 => zz_off (fun c => c = 23) S S1 ∧ ((t = 0 ∧ ans = nI 0) ∨ (t ≠ 0 ∧ ∃ vl, xe_ok vr op nu sz vl (m - sz (m - 1)) m ∧ ans = vl (m - 1)))) (zz_P (xg_G q)) (zz_A (xg_G q))) 0 0 (zz_A (xg_G q)) := by
  refine zz_met (by decide) (Nat.le_of_ble_eq_true rfl) ?_
  intro p_ e_ s_ m_ bl_ mt_ c_ ls hC hK hZ hl
  have hC : zz_C p_ s_ m_ _ mt_ c_ b_Pile_evaluateTop 6 (some .int) "TreeCoverForge$Pile" := hC
  have hx_ := hC.1
  have hb_ := hC.2.1
  have hl : lv_has ls 6 [(0, .ref (zz_ad (xg_G q) 18)), (1, .ref (zz_ad (xg_G q) 41))] := hl
  have hP0 := hP
  obtain ⟨hm, ht0, hm40, htm, harr, htr, hts⟩ := hP
  have hle : t ≠ 0 → sz (m - 1) ≤ m ∧ 1 ≤ sz (m - 1) := fun h => by
    have := (htr (m - 1) (by omega)).2.2.1
    have := (htr (m - 1) (by omega)).2.1
    omega
  have hti : t ≠ 0 → ∀ i, (m - sz (m - 1)) ≤ i → i < m → _ := fun h i h1 h2 => tr_in htr (by omega) (by have := hle h; omega) h1 h2
  have L14_ : ∀ (n_ : Nat) (i : Nat) (Si : zz_S) (vl : Nat → Int32) (H : Heap) (locs : List Loc) (ls : Array Slot) (ht1 : t ≠ 0) (hi : (m - sz (m - 1)) ≤ i ∧ i ≤ m) (ho : zz_off (fun c => c = 23) S Si) (hv : xe_ok vr op nu sz vl (m - sz (m - 1)) i) (hr : ∀ j, (m - sz (m - 1)) ≤ j → j < i → Si.1 23 j = vl j) (hZ : zz_Z (xg_G q) Si s_.heap H locs) (hl : lv_has ls 6 [(0, .ref (zz_ad (xg_G q) 18)), (1, .ref (zz_ad (xg_G q) 41)), (2, .int (nI i))]) (hn_ : m - i = n_), W p_ l e_ rm_Pile_evaluateTop s_ m_ ([.ref (zz_ad (xg_G q) 18), .ref (zz_ad (xg_G q) 41)] : List Value).toArray bl_ mt_ c_ H locs 0 0 (MQ bl_ (va_Qi (fun ans S1 => zz_off (fun c => c = 23) S S1 ∧ ((t = 0 ∧ ans = nI 0) ∨ (t ≠ 0 ∧ ∃ vl, xe_ok vr op nu sz vl (m - sz (m - 1)) m ∧ ans = vl (m - 1)))) (zz_P (xg_G q)) (zz_A (xg_G q))) ([.ref (zz_ad (xg_G q) 18), .ref (zz_ad (xg_G q) 41)] : List Value).toArray s_ 0 0 (zz_A (xg_G q))) (F0 m_ 14 ls []) := by
    intro n_
    induction n_ using Nat.strongRecOn with
    | ind n_ ih_ =>
      intro i Si vl H locs ls ht1 hi ho hv hr hZ hl hn_
      have hti := hti ht1
      have hle := hle ht1
      have hPi : xp_ok Si op nu sz ht m t := by
        unfold xp_ok
        rw [(ho 18 (by omega)).1, (ho 19 (by omega)).1, (ho 20 (by omega)).1, (ho 21 (by omega)).1, (ho 22 (by omega)).1]
        exact hP0
      have hva : ∀ k, k < 8 → Si.1 41 k = vr k := fun k hk => by
        rw [(ho 41 (by omega)).1]
        exact hvr k hk
      refine lv_iload_n hx_ hb_ d_Pile_evaluateTop_14 rfl (lv_at hl 2 rfl) ?_
      refine lv_aload_n hx_ hb_ d_Pile_evaluateTop_15 rfl (lv_at hl 0 rfl) ?_
      refine zz_get hC hK hZ 18 7 (Nat.le_of_ble_eq_true rfl) (xc_18 q _ _) rfl hin_Pile (by decide) wd_125 rfl rfl d_Pile_evaluateTop_16 ?_
      refine zz_topi (y := nI m) hPi.1 ?_
      refine zz_jge (tgt := 110) hC d_Pile_evaluateTop_19 (by decide) (by omega) (by omega) (fun h19 => ?_) (fun h19 => ?_)
      · refine lv_aload_n hx_ hb_ d_Pile_evaluateTop_110 rfl (lv_at hl 0 rfl) ?_
        refine zz_get hC hK hZ 18 4 (Nat.le_of_ble_eq_true rfl) (xc_18 q _ _) rfl hin_Pile (by decide) wd_121 rfl rfl d_Pile_evaluateTop_111 ?_
        refine lv_aload_n hx_ hb_ d_Pile_evaluateTop_114 rfl (lv_at hl 0 rfl) ?_
        refine zz_get hC hK hZ 18 7 (Nat.le_of_ble_eq_true rfl) (xc_18 q _ _) rfl hin_Pile (by decide) wd_125 rfl rfl d_Pile_evaluateTop_115 ?_
        refine zz_topi (y := nI m) hPi.1 ?_
        refine lv_iconst (v := nI 1) hx_ hb_ d_Pile_evaluateTop_118 (by decide) ?_
        refine lv_isub hx_ hb_ d_Pile_evaluateTop_119 ?_
        refine zz_topi (y := nI (m - 1)) (pk_sub (by omega)) ?_
        refine zz_iald hC hK hZ 23 0 (m - 1) (Nat.le_of_ble_eq_true rfl) (xc_23 q _ _) rfl rfl (by omega) (by decide) rfl d_Pile_evaluateTop_120 ?_
        refine zz_topi (y := vl (m - 1)) (hr _ (by omega) (by omega)) ?_
        exact zz_iret hC hK hZ rfl d_Pile_evaluateTop_121 ⟨ho, Or.inr ⟨ht1, vl, fun j h1 h2 => hv j h1 (by omega), rfl⟩⟩
      · have hai := hPi.2.2.2.2.1 i (by omega)
        obtain ⟨t1, t2, t3, t4, t5, t6⟩ := htr i (by omega)
        have hkd := tr_kd (op i)
        have hki := (hti i hi.1 (by omega)).2
        refine zz_garsN hC hK hZ wd_345 d_Pile_evaluateTop_22 ?_
        refine lv_aload_n hx_ hb_ d_Pile_evaluateTop_25 rfl (lv_at hl 0 rfl) ?_
        refine zz_get hC hK hZ 18 0 (Nat.le_of_ble_eq_true rfl) (xc_18 q _ _) rfl hin_Pile (by decide) wd_115 rfl rfl d_Pile_evaluateTop_26 ?_
        refine lv_iload_n hx_ hb_ d_Pile_evaluateTop_29 rfl (lv_at hl 2 rfl) ?_
        refine zz_iald hC hK hZ 19 0 i (Nat.le_of_ble_eq_true rfl) (xc_19 q _ _) rfl rfl (by omega) (by decide) rfl d_Pile_evaluateTop_30 ?_
        refine zz_topi (y := nI (op i)) hai.1 ?_
        refine zz_ari hC hK hZ (op i) rfl (by omega) d_Pile_evaluateTop_31 ?_
        refine lv_istore_n (i := 3) (lv' := [(3, .int (nI (zz_kd (op i)))), (0, .ref (zz_ad (xg_G q) 18)), (1, .ref (zz_ad (xg_G q) 41)), (2, .int (nI i))]) hx_ hb_ d_Pile_evaluateTop_32 rfl hl (by decide) rfl (fun ls hl => ?_)
        refine lv_iload_n hx_ hb_ d_Pile_evaluateTop_33 rfl (lv_at hl 0 rfl) ?_
        refine zz_ine (tgt := 41) hC d_Pile_evaluateTop_34 (by decide) (by omega) (fun h34 => ?_) (fun h34 => ?_)
        · have hkj := hki (by omega)
          have hfa : zz_kd (op i) = 2 → sz (i - 1) ≤ i - 1 := fun h0 => by
            have := t6 h0
            omega
          refine lv_aload_n hx_ hb_ d_Pile_evaluateTop_41 rfl (lv_at hl 1 rfl) ?_
          refine zz_get hC hK hZ 18 4 (Nat.le_of_ble_eq_true rfl) (xc_18 q _ _) rfl hin_Pile (by decide) wd_121 rfl rfl d_Pile_evaluateTop_42 ?_
          refine lv_aload_n hx_ hb_ d_Pile_evaluateTop_45 rfl (lv_at hl 1 rfl) ?_
          refine lv_iload_n hx_ hb_ d_Pile_evaluateTop_46 rfl (lv_at hl 3 rfl) ?_
          refine lv_aload_n hx_ hb_ d_Pile_evaluateTop_47 rfl (lv_at hl 1 rfl) ?_
          refine zz_get hC hK hZ 18 0 (Nat.le_of_ble_eq_true rfl) (xc_18 q _ _) rfl hin_Pile (by decide) wd_115 rfl rfl d_Pile_evaluateTop_48 ?_
          refine lv_iload_n hx_ hb_ d_Pile_evaluateTop_51 rfl (lv_at hl 3 rfl) ?_
          refine zz_iald hC hK hZ 19 0 i (Nat.le_of_ble_eq_true rfl) (xc_19 q _ _) rfl rfl (by omega) (by decide) rfl d_Pile_evaluateTop_52 ?_
          refine zz_topi (y := nI (op i)) hai.1 ?_
          refine zz_ci (zz_rV (As := [.int (nI i), .int (nI (op i))]) (rest := [.ref (zz_ad (xg_G q) 23)]) hC hK hZ 18 (c_Pile_firstKid l q Si op nu sz ht m t hPi i (op i) (by omega) (by omega) (by omega) hfa) k_Pile_firstKid (Nat.le_of_ble_eq_true rfl) (xc_18 q _ _) rfl wd_346 ⟨rfl, rfl, by decide, by decide⟩ rfl hl.1 rfl (Nat.le_of_ble_eq_true rfl) d_Pile_evaluateTop_53 ⟨Nat.zero_le _, Nat.zero_le _⟩) hZ (fun r53 S53 H locs hp53 hZ => ?_)
          obtain ⟨rfl, rfl⟩ := hp53
          refine zz_iald hC hK hZ 23 0 (tr_fa op sz i) (Nat.le_of_ble_eq_true rfl) (xc_23 q _ _) rfl rfl (by omega) (by decide) rfl d_Pile_evaluateTop_56 ?_
          refine zz_topi (y := vl (tr_fa op sz i)) (hr _ (by omega) (by omega)) ?_
          refine lv_istore (i := 4) (lv' := [(4, .int (vl (tr_fa op sz i))), (3, .int (nI (zz_kd (op i)))), (0, .ref (zz_ad (xg_G q) 18)), (1, .ref (zz_ad (xg_G q) 41)), (2, .int (nI i))]) hx_ hb_ d_Pile_evaluateTop_57 hl (by decide) rfl (fun ls hl => ?_)
          refine lv_iload_n hx_ hb_ d_Pile_evaluateTop_59 rfl (lv_at hl 1 rfl) ?_
          refine lv_iconst (v := nI 2) hx_ hb_ d_Pile_evaluateTop_60 (by decide) ?_
          refine zz_jne (tgt := 75) hC d_Pile_evaluateTop_61 (by decide) (by omega) (by omega) (fun h61 => ?_) (fun h61 => ?_)
          · refine lv_iconst (v := nI 0) hx_ hb_ d_Pile_evaluateTop_75 (by decide) ?_
            refine lv_istore (i := 5) (lv' := [(5, .int (nI 0)), (4, .int (vl (tr_fa op sz i))), (3, .int (nI (zz_kd (op i)))), (0, .ref (zz_ad (xg_G q) 18)), (1, .ref (zz_ad (xg_G q) 41)), (2, .int (nI i))]) hx_ hb_ d_Pile_evaluateTop_76 hl (by decide) rfl (fun ls hl => ?_)
            refine lv_aload_n hx_ hb_ d_Pile_evaluateTop_78 rfl (lv_at hl 3 rfl) ?_
            refine zz_get hC hK hZ 18 4 (Nat.le_of_ble_eq_true rfl) (xc_18 q _ _) rfl hin_Pile (by decide) wd_121 rfl rfl d_Pile_evaluateTop_79 ?_
            refine lv_iload_n hx_ hb_ d_Pile_evaluateTop_82 rfl (lv_at hl 5 rfl) ?_
            refine lv_aload_n hx_ hb_ d_Pile_evaluateTop_83 rfl (lv_at hl 3 rfl) ?_
            refine zz_get hC hK hZ 18 0 (Nat.le_of_ble_eq_true rfl) (xc_18 q _ _) rfl hin_Pile (by decide) wd_115 rfl rfl d_Pile_evaluateTop_84 ?_
            refine lv_iload_n hx_ hb_ d_Pile_evaluateTop_87 rfl (lv_at hl 5 rfl) ?_
            refine zz_iald hC hK hZ 19 0 i (Nat.le_of_ble_eq_true rfl) (xc_19 q _ _) rfl rfl (by omega) (by decide) rfl d_Pile_evaluateTop_88 ?_
            refine zz_topi (y := nI (op i)) hai.1 ?_
            refine lv_aload_n hx_ hb_ d_Pile_evaluateTop_89 rfl (lv_at hl 3 rfl) ?_
            refine zz_get hC hK hZ 18 1 (Nat.le_of_ble_eq_true rfl) (xc_18 q _ _) rfl hin_Pile (by decide) wd_117 rfl rfl d_Pile_evaluateTop_90 ?_
            refine lv_iload_n hx_ hb_ d_Pile_evaluateTop_93 rfl (lv_at hl 5 rfl) ?_
            refine zz_iald hC hK hZ 20 0 i (Nat.le_of_ble_eq_true rfl) (xc_20 q _ _) rfl rfl (by omega) (by decide) rfl d_Pile_evaluateTop_94 ?_
            refine zz_topi (y := nu i) hai.2.1 ?_
            refine lv_iload hx_ hb_ d_Pile_evaluateTop_95 (lv_at hl 1 rfl) ?_
            refine lv_iload hx_ hb_ d_Pile_evaluateTop_97 (lv_at hl 0 rfl) ?_
            refine lv_aload_n hx_ hb_ d_Pile_evaluateTop_99 rfl (lv_at hl 4 rfl) ?_
            refine zz_ci (zz_rSN (As := [.int (nI (op i)), .int (nu i), .int (vl (tr_fa op sz i)), .int (nI 0), .ref (zz_ad (xg_G q) 41)]) (rest := [.int (nI i), .ref (zz_ad (xg_G q) 23)]) hC hK hZ (c_Forge_resultOf l q Si (op i) (nu i) (vl (tr_fa op sz i)) (nI 0) (by omega) (hnu i (by omega))) k_Forge_resultOf wd_500 ⟨rfl, rfl, by decide, by decide⟩ rfl hl.1 rfl (Nat.le_of_ble_eq_true rfl) d_Pile_evaluateTop_100 ⟨Nat.zero_le _, Nat.zero_le _⟩) hZ (fun r100 S100 H locs hp100 hZ => ?_)
            obtain ⟨rfl, rfl⟩ := hp100
            rw [ex_cv (hva : ∀ k, k < 8 → Si.1 41 k = vr k) (hnu i (by omega))]
            refine zz_iast hC hK hZ 23 0 i (Nat.le_of_ble_eq_true rfl) (fun _ => xc_23 q _ _) rfl rfl (by omega) (by decide) d_Pile_evaluateTop_103 (fun H locs hZ => ?_)
            refine lv_iinc (k := 5) (v := nI (i + 1)) (lv' := [(2, .int (nI (i + 1))), (5, .int (nI 0)), (4, .int (vl (tr_fa op sz i))), (3, .int (nI (zz_kd (op i)))), (0, .ref (zz_ad (xg_G q) 18)), (1, .ref (zz_ad (xg_G q) 41))]) hx_ hb_ d_Pile_evaluateTop_104 hl rfl (nI_add _ 1) (by decide) rfl (fun ls hl => ?_)
            refine lv_goto (tgt := 14) hx_ hb_ d_Pile_evaluateTop_107 (by decide) ?_
            exact ih_ _ (by omega) (i + 1) (zz_u Si 23 i (ex_cal vr (op i) (nu i) (vl (tr_fa op sz i)) (nI 0))) (upd vl i (ex_cal vr (op i) (nu i) (vl (tr_fa op sz i)) (nI 0)))  _ _ _ ht1 (by omega) (zz_off_tr ho (fun d hd => ⟨zz_u1 Si 23 i _ d hd, rfl⟩)) (fun j h1 h2 => by
              have hkj : j ≠ i → upd vl i (ex_cal vr (op i) (nu i) (vl (tr_fa op sz i)) (nI 0)) j = vl j := fun h => pk_un h
              by_cases e : j = i
              · subst e
                rw [pk_us]
                congr 1
                · split
                  · rename_i c
                    first | (exact absurd h34 (by omega)) | rw [pk_un (by have := (hti j h1 (by omega)).2 c; omega)]
                  · first | rfl | (exact absurd h34 (by omega))
                · split
                  · rename_i c
                    first | (exact absurd c h61) | rw [pk_un (by have := (hti j h1 (by omega)).2 (by omega); omega)]
                  · first | rfl | (exact absurd h61 (by omega))
              · rw [hkj e, hv j h1 (by omega)]
                congr 1
                · split
                  · rename_i c
                    rw [pk_un (by have := (hti j h1 (by omega)).2 c; omega)]
                  · rfl
                · split
                  · rename_i c
                    rw [pk_un (by have := (hti j h1 (by omega)).2 (by omega); omega)]
                  · rfl) (fun j h1 h2 => by
              rw [zz_u1s]
              by_cases e : j = i
              · rw [e, pk_us, pk_us]
              · rw [pk_un e, pk_un e]
                exact hr j h1 (by omega)) hZ (lv_sub hl [4, 5, 0] rfl) rfl
          · refine lv_aload_n hx_ hb_ d_Pile_evaluateTop_64 rfl (lv_at hl 2 rfl) ?_
            refine zz_get hC hK hZ 18 4 (Nat.le_of_ble_eq_true rfl) (xc_18 q _ _) rfl hin_Pile (by decide) wd_121 rfl rfl d_Pile_evaluateTop_65 ?_
            refine lv_iload_n hx_ hb_ d_Pile_evaluateTop_68 rfl (lv_at hl 4 rfl) ?_
            refine lv_iconst (v := nI 1) hx_ hb_ d_Pile_evaluateTop_69 (by decide) ?_
            refine lv_isub hx_ hb_ d_Pile_evaluateTop_70 ?_
            refine zz_topi (y := nI (i - 1)) (pk_sub (by omega)) ?_
            refine zz_iald hC hK hZ 23 0 (i - 1) (Nat.le_of_ble_eq_true rfl) (xc_23 q _ _) rfl rfl (by omega) (by decide) rfl d_Pile_evaluateTop_71 ?_
            refine zz_topi (y := vl (i - 1)) (hr _ (by omega) (by omega)) ?_
            refine lv_goto (tgt := 76) hx_ hb_ d_Pile_evaluateTop_72 (by decide) ?_
            refine lv_istore (i := 5) (lv' := [(5, .int (vl (i - 1))), (4, .int (vl (tr_fa op sz i))), (3, .int (nI (zz_kd (op i)))), (0, .ref (zz_ad (xg_G q) 18)), (1, .ref (zz_ad (xg_G q) 41)), (2, .int (nI i))]) hx_ hb_ d_Pile_evaluateTop_76 hl (by decide) rfl (fun ls hl => ?_)
            refine lv_aload_n hx_ hb_ d_Pile_evaluateTop_78 rfl (lv_at hl 3 rfl) ?_
            refine zz_get hC hK hZ 18 4 (Nat.le_of_ble_eq_true rfl) (xc_18 q _ _) rfl hin_Pile (by decide) wd_121 rfl rfl d_Pile_evaluateTop_79 ?_
            refine lv_iload_n hx_ hb_ d_Pile_evaluateTop_82 rfl (lv_at hl 5 rfl) ?_
            refine lv_aload_n hx_ hb_ d_Pile_evaluateTop_83 rfl (lv_at hl 3 rfl) ?_
            refine zz_get hC hK hZ 18 0 (Nat.le_of_ble_eq_true rfl) (xc_18 q _ _) rfl hin_Pile (by decide) wd_115 rfl rfl d_Pile_evaluateTop_84 ?_
            refine lv_iload_n hx_ hb_ d_Pile_evaluateTop_87 rfl (lv_at hl 5 rfl) ?_
            refine zz_iald hC hK hZ 19 0 i (Nat.le_of_ble_eq_true rfl) (xc_19 q _ _) rfl rfl (by omega) (by decide) rfl d_Pile_evaluateTop_88 ?_
            refine zz_topi (y := nI (op i)) hai.1 ?_
            refine lv_aload_n hx_ hb_ d_Pile_evaluateTop_89 rfl (lv_at hl 3 rfl) ?_
            refine zz_get hC hK hZ 18 1 (Nat.le_of_ble_eq_true rfl) (xc_18 q _ _) rfl hin_Pile (by decide) wd_117 rfl rfl d_Pile_evaluateTop_90 ?_
            refine lv_iload_n hx_ hb_ d_Pile_evaluateTop_93 rfl (lv_at hl 5 rfl) ?_
            refine zz_iald hC hK hZ 20 0 i (Nat.le_of_ble_eq_true rfl) (xc_20 q _ _) rfl rfl (by omega) (by decide) rfl d_Pile_evaluateTop_94 ?_
            refine zz_topi (y := nu i) hai.2.1 ?_
            refine lv_iload hx_ hb_ d_Pile_evaluateTop_95 (lv_at hl 1 rfl) ?_
            refine lv_iload hx_ hb_ d_Pile_evaluateTop_97 (lv_at hl 0 rfl) ?_
            refine lv_aload_n hx_ hb_ d_Pile_evaluateTop_99 rfl (lv_at hl 4 rfl) ?_
            refine zz_ci (zz_rSN (As := [.int (nI (op i)), .int (nu i), .int (vl (tr_fa op sz i)), .int (vl (i - 1)), .ref (zz_ad (xg_G q) 41)]) (rest := [.int (nI i), .ref (zz_ad (xg_G q) 23)]) hC hK hZ (c_Forge_resultOf l q Si (op i) (nu i) (vl (tr_fa op sz i)) (vl (i - 1)) (by omega) (hnu i (by omega))) k_Forge_resultOf wd_500 ⟨rfl, rfl, by decide, by decide⟩ rfl hl.1 rfl (Nat.le_of_ble_eq_true rfl) d_Pile_evaluateTop_100 ⟨Nat.zero_le _, Nat.zero_le _⟩) hZ (fun r100 S100 H locs hp100 hZ => ?_)
            obtain ⟨rfl, rfl⟩ := hp100
            rw [ex_cv (hva : ∀ k, k < 8 → Si.1 41 k = vr k) (hnu i (by omega))]
            refine zz_iast hC hK hZ 23 0 i (Nat.le_of_ble_eq_true rfl) (fun _ => xc_23 q _ _) rfl rfl (by omega) (by decide) d_Pile_evaluateTop_103 (fun H locs hZ => ?_)
            refine lv_iinc (k := 5) (v := nI (i + 1)) (lv' := [(2, .int (nI (i + 1))), (5, .int (vl (i - 1))), (4, .int (vl (tr_fa op sz i))), (3, .int (nI (zz_kd (op i)))), (0, .ref (zz_ad (xg_G q) 18)), (1, .ref (zz_ad (xg_G q) 41))]) hx_ hb_ d_Pile_evaluateTop_104 hl rfl (nI_add _ 1) (by decide) rfl (fun ls hl => ?_)
            refine lv_goto (tgt := 14) hx_ hb_ d_Pile_evaluateTop_107 (by decide) ?_
            exact ih_ _ (by omega) (i + 1) (zz_u Si 23 i (ex_cal vr (op i) (nu i) (vl (tr_fa op sz i)) (vl (i - 1)))) (upd vl i (ex_cal vr (op i) (nu i) (vl (tr_fa op sz i)) (vl (i - 1))))  _ _ _ ht1 (by omega) (zz_off_tr ho (fun d hd => ⟨zz_u1 Si 23 i _ d hd, rfl⟩)) (fun j h1 h2 => by
              have hkj : j ≠ i → upd vl i (ex_cal vr (op i) (nu i) (vl (tr_fa op sz i)) (vl (i - 1))) j = vl j := fun h => pk_un h
              by_cases e : j = i
              · subst e
                rw [pk_us]
                congr 1
                · split
                  · rename_i c
                    first | (exact absurd h34 (by omega)) | rw [pk_un (by have := (hti j h1 (by omega)).2 c; omega)]
                  · first | rfl | (exact absurd h34 (by omega))
                · split
                  · rename_i c
                    first | (exact absurd c h61) | rw [pk_un (by have := (hti j h1 (by omega)).2 (by omega); omega)]
                  · first | rfl | (exact absurd h61 (by omega))
              · rw [hkj e, hv j h1 (by omega)]
                congr 1
                · split
                  · rename_i c
                    rw [pk_un (by have := (hti j h1 (by omega)).2 c; omega)]
                  · rfl
                · split
                  · rename_i c
                    rw [pk_un (by have := (hti j h1 (by omega)).2 (by omega); omega)]
                  · rfl) (fun j h1 h2 => by
              rw [zz_u1s]
              by_cases e : j = i
              · rw [e, pk_us, pk_us]
              · rw [pk_un e, pk_un e]
                exact hr j h1 (by omega)) hZ (lv_sub hl [4, 5, 0] rfl) rfl
        · refine lv_iconst (v := nI 0) hx_ hb_ d_Pile_evaluateTop_37 (by decide) ?_
          refine lv_goto (tgt := 57) hx_ hb_ d_Pile_evaluateTop_38 (by decide) ?_
          refine lv_istore (i := 4) (lv' := [(4, .int (nI 0)), (3, .int (nI (zz_kd (op i)))), (0, .ref (zz_ad (xg_G q) 18)), (1, .ref (zz_ad (xg_G q) 41)), (2, .int (nI i))]) hx_ hb_ d_Pile_evaluateTop_57 hl (by decide) rfl (fun ls hl => ?_)
          refine lv_iload_n hx_ hb_ d_Pile_evaluateTop_59 rfl (lv_at hl 1 rfl) ?_
          refine lv_iconst (v := nI 2) hx_ hb_ d_Pile_evaluateTop_60 (by decide) ?_
          refine zz_jne (tgt := 75) hC d_Pile_evaluateTop_61 (by decide) (by omega) (by omega) (fun h61 => ?_) (fun h61 => ?_)
          · refine lv_iconst (v := nI 0) hx_ hb_ d_Pile_evaluateTop_75 (by decide) ?_
            refine lv_istore (i := 5) (lv' := [(5, .int (nI 0)), (4, .int (nI 0)), (3, .int (nI (zz_kd (op i)))), (0, .ref (zz_ad (xg_G q) 18)), (1, .ref (zz_ad (xg_G q) 41)), (2, .int (nI i))]) hx_ hb_ d_Pile_evaluateTop_76 hl (by decide) rfl (fun ls hl => ?_)
            refine lv_aload_n hx_ hb_ d_Pile_evaluateTop_78 rfl (lv_at hl 3 rfl) ?_
            refine zz_get hC hK hZ 18 4 (Nat.le_of_ble_eq_true rfl) (xc_18 q _ _) rfl hin_Pile (by decide) wd_121 rfl rfl d_Pile_evaluateTop_79 ?_
            refine lv_iload_n hx_ hb_ d_Pile_evaluateTop_82 rfl (lv_at hl 5 rfl) ?_
            refine lv_aload_n hx_ hb_ d_Pile_evaluateTop_83 rfl (lv_at hl 3 rfl) ?_
            refine zz_get hC hK hZ 18 0 (Nat.le_of_ble_eq_true rfl) (xc_18 q _ _) rfl hin_Pile (by decide) wd_115 rfl rfl d_Pile_evaluateTop_84 ?_
            refine lv_iload_n hx_ hb_ d_Pile_evaluateTop_87 rfl (lv_at hl 5 rfl) ?_
            refine zz_iald hC hK hZ 19 0 i (Nat.le_of_ble_eq_true rfl) (xc_19 q _ _) rfl rfl (by omega) (by decide) rfl d_Pile_evaluateTop_88 ?_
            refine zz_topi (y := nI (op i)) hai.1 ?_
            refine lv_aload_n hx_ hb_ d_Pile_evaluateTop_89 rfl (lv_at hl 3 rfl) ?_
            refine zz_get hC hK hZ 18 1 (Nat.le_of_ble_eq_true rfl) (xc_18 q _ _) rfl hin_Pile (by decide) wd_117 rfl rfl d_Pile_evaluateTop_90 ?_
            refine lv_iload_n hx_ hb_ d_Pile_evaluateTop_93 rfl (lv_at hl 5 rfl) ?_
            refine zz_iald hC hK hZ 20 0 i (Nat.le_of_ble_eq_true rfl) (xc_20 q _ _) rfl rfl (by omega) (by decide) rfl d_Pile_evaluateTop_94 ?_
            refine zz_topi (y := nu i) hai.2.1 ?_
            refine lv_iload hx_ hb_ d_Pile_evaluateTop_95 (lv_at hl 1 rfl) ?_
            refine lv_iload hx_ hb_ d_Pile_evaluateTop_97 (lv_at hl 0 rfl) ?_
            refine lv_aload_n hx_ hb_ d_Pile_evaluateTop_99 rfl (lv_at hl 4 rfl) ?_
            refine zz_ci (zz_rSN (As := [.int (nI (op i)), .int (nu i), .int (nI 0), .int (nI 0), .ref (zz_ad (xg_G q) 41)]) (rest := [.int (nI i), .ref (zz_ad (xg_G q) 23)]) hC hK hZ (c_Forge_resultOf l q Si (op i) (nu i) (nI 0) (nI 0) (by omega) (hnu i (by omega))) k_Forge_resultOf wd_500 ⟨rfl, rfl, by decide, by decide⟩ rfl hl.1 rfl (Nat.le_of_ble_eq_true rfl) d_Pile_evaluateTop_100 ⟨Nat.zero_le _, Nat.zero_le _⟩) hZ (fun r100 S100 H locs hp100 hZ => ?_)
            obtain ⟨rfl, rfl⟩ := hp100
            rw [ex_cv (hva : ∀ k, k < 8 → Si.1 41 k = vr k) (hnu i (by omega))]
            refine zz_iast hC hK hZ 23 0 i (Nat.le_of_ble_eq_true rfl) (fun _ => xc_23 q _ _) rfl rfl (by omega) (by decide) d_Pile_evaluateTop_103 (fun H locs hZ => ?_)
            refine lv_iinc (k := 5) (v := nI (i + 1)) (lv' := [(2, .int (nI (i + 1))), (5, .int (nI 0)), (4, .int (nI 0)), (3, .int (nI (zz_kd (op i)))), (0, .ref (zz_ad (xg_G q) 18)), (1, .ref (zz_ad (xg_G q) 41))]) hx_ hb_ d_Pile_evaluateTop_104 hl rfl (nI_add _ 1) (by decide) rfl (fun ls hl => ?_)
            refine lv_goto (tgt := 14) hx_ hb_ d_Pile_evaluateTop_107 (by decide) ?_
            exact ih_ _ (by omega) (i + 1) (zz_u Si 23 i (ex_cal vr (op i) (nu i) (nI 0) (nI 0))) (upd vl i (ex_cal vr (op i) (nu i) (nI 0) (nI 0)))  _ _ _ ht1 (by omega) (zz_off_tr ho (fun d hd => ⟨zz_u1 Si 23 i _ d hd, rfl⟩)) (fun j h1 h2 => by
              have hkj : j ≠ i → upd vl i (ex_cal vr (op i) (nu i) (nI 0) (nI 0)) j = vl j := fun h => pk_un h
              by_cases e : j = i
              · subst e
                rw [pk_us]
                congr 1
                · split
                  · rename_i c
                    first | (exact absurd h34 (by omega)) | rw [pk_un (by have := (hti j h1 (by omega)).2 c; omega)]
                  · first | rfl | (exact absurd h34 (by omega))
                · split
                  · rename_i c
                    first | (exact absurd c h61) | rw [pk_un (by have := (hti j h1 (by omega)).2 (by omega); omega)]
                  · first | rfl | (exact absurd h61 (by omega))
              · rw [hkj e, hv j h1 (by omega)]
                congr 1
                · split
                  · rename_i c
                    rw [pk_un (by have := (hti j h1 (by omega)).2 c; omega)]
                  · rfl
                · split
                  · rename_i c
                    rw [pk_un (by have := (hti j h1 (by omega)).2 (by omega); omega)]
                  · rfl) (fun j h1 h2 => by
              rw [zz_u1s]
              by_cases e : j = i
              · rw [e, pk_us, pk_us]
              · rw [pk_un e, pk_un e]
                exact hr j h1 (by omega)) hZ (lv_sub hl [4, 5, 0] rfl) rfl
          · exact absurd h61 (by omega)
  have L14 : ∀ (i : Nat) (Si : zz_S) (vl : Nat → Int32) (H : Heap) (locs : List Loc) (ls : Array Slot) (ht1 : t ≠ 0) (hi : (m - sz (m - 1)) ≤ i ∧ i ≤ m) (ho : zz_off (fun c => c = 23) S Si) (hv : xe_ok vr op nu sz vl (m - sz (m - 1)) i) (hr : ∀ j, (m - sz (m - 1)) ≤ j → j < i → Si.1 23 j = vl j) (hZ : zz_Z (xg_G q) Si s_.heap H locs) (hl : lv_has ls 6 [(0, .ref (zz_ad (xg_G q) 18)), (1, .ref (zz_ad (xg_G q) 41)), (2, .int (nI i))]), W p_ l e_ rm_Pile_evaluateTop s_ m_ ([.ref (zz_ad (xg_G q) 18), .ref (zz_ad (xg_G q) 41)] : List Value).toArray bl_ mt_ c_ H locs 0 0 (MQ bl_ (va_Qi (fun ans S1 => zz_off (fun c => c = 23) S S1 ∧ ((t = 0 ∧ ans = nI 0) ∨ (t ≠ 0 ∧ ∃ vl, xe_ok vr op nu sz vl (m - sz (m - 1)) m ∧ ans = vl (m - 1)))) (zz_P (xg_G q)) (zz_A (xg_G q))) ([.ref (zz_ad (xg_G q) 18), .ref (zz_ad (xg_G q) 41)] : List Value).toArray s_ 0 0 (zz_A (xg_G q))) (F0 m_ 14 ls []) := fun i Si vl H locs ls ht1 hi ho hv hr hZ hl => L14_ _ i Si vl H locs ls ht1 hi ho hv hr hZ hl rfl
  refine lv_aload_n hx_ hb_ d_Pile_evaluateTop_0 rfl (lv_at hl 0 rfl) ?_
  refine zz_get hC hK hZ 18 8 (Nat.le_of_ble_eq_true rfl) (xc_18 q _ _) rfl hin_Pile (by decide) wd_128 rfl rfl d_Pile_evaluateTop_1 ?_
  refine zz_topi (y := nI t) ht0 ?_
  refine zz_ine (tgt := 9) hC d_Pile_evaluateTop_4 (by decide) (by omega) (fun h4 => ?_) (fun h4 => ?_)
  · refine lv_aload_n hx_ hb_ d_Pile_evaluateTop_9 rfl (lv_at hl 0 rfl) ?_
    refine zz_ci (zz_rV (As := []) (rest := []) hC hK hZ 18 (c_Pile_topStart l q S op nu sz ht m t hP0) k_Pile_topStart (Nat.le_of_ble_eq_true rfl) (xc_18 q _ _) rfl wd_395 ⟨rfl, rfl, by decide, by decide⟩ rfl hl.1 rfl (Nat.le_of_ble_eq_true rfl) d_Pile_evaluateTop_10 ⟨Nat.zero_le _, Nat.zero_le _⟩) hZ (fun r10 S10 H locs hp10 hZ => ?_)
    obtain ⟨rfl, rfl⟩ := hp10
    rw [if_neg h4]
    refine lv_istore_n (i := 2) (lv' := [(2, .int (nI (m - sz (m - 1)))), (0, .ref (zz_ad (xg_G q) 18)), (1, .ref (zz_ad (xg_G q) 41))]) hx_ hb_ d_Pile_evaluateTop_13 rfl hl (by decide) rfl (fun ls hl => ?_)
    exact L14 (m - sz (m - 1)) S (fun _ => 0)  _ _ _ h4 (by omega) zz_off_rf (fun j h1 h2 => absurd h2 (by omega)) (fun j h1 h2 => absurd h2 (by omega)) hZ (lv_sub hl [1, 2, 0] rfl)
  · refine lv_iconst (v := nI 0) hx_ hb_ d_Pile_evaluateTop_7 (by decide) ?_
    exact zz_iret hC hK hZ rfl d_Pile_evaluateTop_8 ⟨zz_off_rf, Or.inl ⟨h4, rfl⟩⟩
end
section
/-! The code in the class's cells. -/
def vw_s (x : Nat) : Int32 := if x < 1000 then nI x else -3
theorem vw_s_in {x : Nat} (h : x < 1000) : vw_s x = nI x := if_pos h
theorem vw_s_out {x : Nat} (h : ¬ x < 1000) : vw_s x = -3 := if_neg h
theorem vw_s_eq {x : Nat} (h : (vw_s x).toInt = (-3 : Int32).toInt) : ¬ x < 1000 := fun hx => by
  rw [vw_s_in hx, nI_toInt (by omega), show (-3 : Int32).toInt = -3 from rfl] at h
  omega
theorem vw_s_ne {x : Nat} (h : (vw_s x).toInt ≠ (-3 : Int32).toInt) : x < 1000 := by
  by_cases hx : x < 1000
  · exact hx
  · rw [vw_s_out hx] at h
    exact absurd rfl h
def xk_ok (S : zz_S) (cs : cd_T) : Prop := S.1 27 13 = nI cs.1 ∧ cs.1 ≤ 160 ∧ ∀ i, i < cs.1 → S.1 28 i = nI (cs.2.1 i) ∧ S.1 29 i = nI (cs.2.2.1 i) ∧ S.1 30 i = nI (cs.2.2.2.1 i) ∧ S.1 31 i = cs.2.2.2.2.1 i ∧ S.1 32 i = vw_s (cs.2.2.2.2.2.1 i) ∧ S.1 33 i = vw_s (cs.2.2.2.2.2.2.1 i) ∧ S.1 34 i = nI (cs.2.2.2.2.2.2.2 i)
abbrev xk_X : Nat → Prop := fun c => 27 ≤ c ∧ c ≤ 34
/-- the seven rows at place n -/
def xk_b (S : zz_S) (n r nd o : Nat) (nu : Int32) (a b : Nat) : zz_S := zz_u (zz_u (zz_u (zz_u (zz_u (zz_u (zz_u S 28 n (nI r)) 29 n (nI nd)) 30 n (nI o)) 31 n nu) 32 n (vw_s a)) 33 n (vw_s b)) 34 n (nI n)
theorem xk_upN {f : Nat → Int32} {g : Nat → Nat} {n k v : Nat} (h : ∀ j, j < n → f j = nI (g j)) : ∀ j, j < n + 1 → upd f n (nI v) j = nI (va_up g n v j) := fun j hj => by
  by_cases e : j = n
  · rw [e, pk_us, mp_up_s]
  · rw [pk_un e, mp_up_n e]
    exact h j (by omega)
theorem xk_upS {f : Nat → Int32} {g : Nat → Nat} {n v : Nat} (h : ∀ j, j < n → f j = vw_s (g j)) : ∀ j, j < n + 1 → upd f n (vw_s v) j = vw_s (va_up g n v j) := fun j hj => by
  by_cases e : j = n
  · rw [e, pk_us, mp_up_s]
  · rw [pk_un e, mp_up_n e]
    exact h j (by omega)
theorem xk_un_no {un : Nat → Nat} {n a : Nat} (h : ¬ a < 1000) : cd_un un n a = un := by rw [cd_un, if_neg h]
theorem xk_un_yes {un : Nat → Nat} {n a : Nat} (h : a < 1000) : cd_un un n a = va_up un a n := by rw [cd_un, if_pos h]
theorem xk_upU {f : Nat → Int32} {g : Nat → Nat} {n a m : Nat} (ha : a < 1000) (h : ∀ j, j < m → f j = nI (g j)) : ∀ j, j < m → upd f a (nI n) j = nI (cd_un g n a j) := fun j hj => by
  rw [xk_un_yes ha]
  by_cases e : j = a
  · rw [e, pk_us, mp_up_s]
  · rw [pk_un e, mp_up_n e]
    exact h j hj
/-- an instruction more -/
theorem xk_ap {S So : zz_S} {cs : cd_T} {r nd o a b : Nat} {nu : Int32} (h : xk_ok S cs) (hn : cs.1 < 160) (ho : zz_off (fun c => c = 34) (xk_b S cs.1 r nd o nu a b) So) (h34 : ∀ j, j < cs.1 + 1 → So.1 34 j = nI (cd_un (cd_un (va_up cs.2.2.2.2.2.2.2 cs.1 cs.1) cs.1 a) cs.1 b j)) : xk_ok (zz_u So 27 13 (nI (cs.1 + 1))) (cd_ap cs r nd o nu a b) := by
  obtain ⟨h1, h2, h3⟩ := h
  refine ⟨rfl, by show cs.1 + 1 ≤ 160; omega, fun i hi => ?_⟩
  have hi : i < cs.1 + 1 := hi
  have e : ∀ c, c ≠ 27 → c ≠ 34 → (zz_u So 27 13 (nI (cs.1 + 1))).1 c = (xk_b S cs.1 r nd o nu a b).1 c := fun c c1 c2 => by rw [zz_u1 So 27 13 _ c c1]; exact (ho c c2).1
  rw [e 28 (by omega) (by omega), e 29 (by omega) (by omega), e 30 (by omega) (by omega), e 31 (by omega) (by omega), e 32 (by omega) (by omega), e 33 (by omega) (by omega), zz_u1 So 27 13 _ 34 (by omega)]
  refine ⟨xk_upN (k := 0) (fun j hj => (h3 j hj).1) i hi, xk_upN (k := 0) (fun j hj => (h3 j hj).2.1) i hi, xk_upN (k := 0) (fun j hj => (h3 j hj).2.2.1) i hi, ?_, xk_upS (fun j hj => (h3 j hj).2.2.2.2.1) i hi, xk_upS (fun j hj => (h3 j hj).2.2.2.2.2.1) i hi, h34 i hi⟩
  show upd (S.1 31) cs.1 nu i = upd cs.2.2.2.2.1 cs.1 nu i
  by_cases e2 : i = cs.1
  · rw [e2, pk_us, pk_us]
  · rw [pk_un e2, pk_un e2]
    exact (h3 i (by omega)).2.2.2.1
theorem xk_boff {S So : zz_S} {n r nd o a b : Nat} {nu v : Int32} (ho : zz_off (fun c => c = 34) (xk_b S n r nd o nu a b) So) : zz_off xk_X S (zz_u So 27 13 v) := fun c hc => by
  have h1 : c ≠ 27 := fun h => hc (by rw [h]; decide)
  have h2 : c ≠ 34 := fun h => hc (by rw [h]; decide)
  refine ⟨?_, ?_⟩
  · rw [zz_u1 So 27 13 _ c h1, (ho c h2).1]
    unfold xk_b
    rw [zz_u1 _ 34 _ _ c h2, zz_u1 _ 33 _ _ c (fun h => hc (by rw [h]; decide)), zz_u1 _ 32 _ _ c (fun h => hc (by rw [h]; decide)), zz_u1 _ 31 _ _ c (fun h => hc (by rw [h]; decide)), zz_u1 _ 30 _ _ c (fun h => hc (by rw [h]; decide)), zz_u1 _ 29 _ _ c (fun h => hc (by rw [h]; decide)), zz_u1 _ 28 _ _ c (fun h => hc (by rw [h]; decide))]
  · show So.2 c = S.2 c
    rw [(ho c h2).2]
    rfl
def xk_tell (cs : cd_T) (pl : Nat → Nat) (i w : Nat) : Int32 := if w = 0 then nI (cs.2.1 i) else if w = 1 then nI (cs.2.2.1 i) else if w = 2 then nI (pl i) else if w = 3 then (if cs.2.2.2.2.2.1 i < 1000 then nI (pl (cs.2.2.2.2.2.1 i)) else -3) else (if cs.2.2.2.2.2.2.1 i < 1000 then nI (pl (cs.2.2.2.2.2.2.1 i)) else -3)
theorem ex_src_c {res : Nat → Int32} {i s : Nat} {v : Int32} (h : s < 1000 → s < i) : ex_src (upd res i v) s = ex_src res s := by
  rw [ex_src, ex_src]
  split
  · rename_i hs
    have := h hs
    exact pk_un (by omega)
  · rfl
/-- one instruction is run -/
theorem ex_go {vr : Nat → Int32} {cs : cd_T} {res mem : Nat → Int32} {i reg sc : Nat} {pl : Nat → Nat} {v : Int32} (hcd : cd_ok cs) (hi : i < cs.1) (hplo : pl_ok reg cs.2.2.2.2.2.2.2 cs.1 pl sc) (he : ∀ j, j < i → res j = ex_cal vr (cs.2.2.2.1 j) (cs.2.2.2.2.1 j) (ex_src res (cs.2.2.2.2.2.1 j)) (ex_src res (cs.2.2.2.2.2.2.1 j))) (hm : ex_mem cs.2.2.2.2.2.2.2 pl res mem i) (hv : v = ex_cal vr (cs.2.2.2.1 i) (cs.2.2.2.2.1 i) (ex_src res (cs.2.2.2.2.2.1 i)) (ex_src res (cs.2.2.2.2.2.2.1 i))) : (∀ j, j < i + 1 → upd res i v j = ex_cal vr (cs.2.2.2.1 j) (cs.2.2.2.2.1 j) (ex_src (upd res i v) (cs.2.2.2.2.2.1 j)) (ex_src (upd res i v) (cs.2.2.2.2.2.2.1 j))) ∧ ex_mem cs.2.2.2.2.2.2.2 pl (upd res i v) (upd mem (pl i) v) (i + 1) := by
  refine ⟨fun j hj => ?_, ?_⟩
  · obtain ⟨x1, x2, x3, x4⟩ := hcd j (by omega)
    rw [ex_src_c (fun h => by have := (x3 h).1; omega), ex_src_c (fun h => by have := (x4 h).1; omega)]
    by_cases e : j = i
    · rw [e, pk_us]
      exact hv
    · rw [pk_un e]
      exact he j (by omega)
  · have hm2 : ex_mem cs.2.2.2.2.2.2.2 pl (upd res i v) mem i := ⟨fun j hj hu => by rw [pk_un (by omega)]; exact hm.1 j hj hu, fun h => by rw [pk_un (by omega)]; exact hm.2 h⟩
    have := ex_mem_s hplo hi hm2
    rw [pk_us] at this
    exact this
end
section
/-! The code: instructions, questions, running. Laid by wip/whole/prog/p8.py. -/
set_option maxHeartbeats 4000000 in
set_option maxRecDepth 100000 in
theorem c_Code_append (l : Launch) (q : xg_T) (S : zz_S) (cs : cd_T) (r nd o a b : Nat) (nu : Int32) (hk : xk_ok S cs) (hn : cs.1 < 160) (ha : a < 1000 → a < cs.1) (hb : b < 1000 → b < cs.1) : Met l y_Code_append (Cond.code y_Code_append b_Code_append 7 none :: zz_tbl) rm_Code_append (zz_Pc [.ref (zz_ad (xg_G q) 27), .int (nI r), .int (nI nd), .int (nI o), .int nu, .int (vw_s a), .int (vw_s b)] (xg_G q) S) (va_Qv (fun S1 => zz_off xk_X S S1 ∧ S1.1 27 14 = S.1 27 14 ∧ xk_ok S1 (cd_ap cs r nd o nu a b)) (zz_P (xg_G q)) (zz_A (xg_G q))) 0 0 (zz_A (xg_G q)) := by
  refine zz_met (by decide) (Nat.le_of_ble_eq_true rfl) ?_
  intro p_ e_ s_ m_ bl_ mt_ c_ ls hC hK hZ hl
  have hC : zz_C p_ s_ m_ _ mt_ c_ b_Code_append 7 none "TreeCoverForge$Code" := hC
  have hx_ := hC.1
  have hb_ := hC.2.1
  have hl : lv_has ls 7 [(0, .ref (zz_ad (xg_G q) 27)), (1, .int (nI r)), (2, .int (nI nd)), (3, .int (nI o)), (4, .int nu), (5, .int (vw_s a)), (6, .int (vw_s b))] := hl
  have J112 : ∀ (So : zz_S) (H : Heap) (locs : List Loc) (ls : Array Slot) (ho : zz_off (fun c => c = 34) (xk_b S cs.1 r nd o nu a b) So) (h34 : ∀ j, j < cs.1 + 1 → So.1 34 j = nI (cd_un (cd_un (va_up cs.2.2.2.2.2.2.2 cs.1 cs.1) cs.1 a) cs.1 b j)) (hZ : zz_Z (xg_G q) So s_.heap H locs) (hl : lv_has ls 7 [(0, .ref (zz_ad (xg_G q) 27)), (1, .int (nI r)), (2, .int (nI nd)), (3, .int (nI o)), (4, .int nu), (5, .int (vw_s a)), (6, .int (vw_s b))]), W p_ l e_ rm_Code_append s_ m_ ([.ref (zz_ad (xg_G q) 27), .int (nI r), .int (nI nd), .int (nI o), .int nu, .int (vw_s a), .int (vw_s b)] : List Value).toArray bl_ mt_ c_ H locs 0 0 (MQ bl_ (va_Qv (fun S1 => zz_off xk_X S S1 ∧ S1.1 27 14 = S.1 27 14 ∧ xk_ok S1 (cd_ap cs r nd o nu a b)) (zz_P (xg_G q)) (zz_A (xg_G q))) ([.ref (zz_ad (xg_G q) 27), .int (nI r), .int (nI nd), .int (nI o), .int nu, .int (vw_s a), .int (vw_s b)] : List Value).toArray s_ 0 0 (zz_A (xg_G q))) (F0 m_ 112 ls []) := by
    intro So H locs ls ho h34 hZ hl
    have hcn : So.1 27 13 = nI cs.1 := by
      rw [(ho 27 (by omega)).1]
      exact hk.1
    refine lv_aload_n hx_ hb_ d_Code_append_112 rfl (lv_at hl 0 rfl) ?_
    refine lv_dup hx_ hb_ d_Code_append_113 rfl ?_
    refine zz_get hC hK hZ 27 13 (Nat.le_of_ble_eq_true rfl) (xc_27 q _ _) rfl hin_Code (by decide) wd_194 rfl rfl d_Code_append_114 ?_
    refine zz_topi (y := nI cs.1) hcn ?_
    refine lv_iconst (v := nI 1) hx_ hb_ d_Code_append_117 (by decide) ?_
    refine lv_iadd hx_ hb_ d_Code_append_118 ?_
    refine zz_topi (y := nI (cs.1 + 1)) (nI_add _ _) ?_
    refine zz_put hC hK hZ 27 13 (Nat.le_of_ble_eq_true rfl) (xc_27 q _ _) rfl hin_Code t_Code t_Code_ok n_Code (by decide) wd_194 rfl rfl rfl (Nat.le_of_ble_eq_true rfl) rfl d_Code_append_119 (fun H locs hZ => ?_)
    exact zz_vret hC hK hZ rfl d_Code_append_122 ⟨xk_boff ho, by
      show So.1 27 14 = S.1 27 14
      rw [(ho 27 (by omega)).1]
      rfl, xk_ap hk hn ho h34⟩
  have J94 : ∀ (So : zz_S) (H : Heap) (locs : List Loc) (ls : Array Slot) (ho : zz_off (fun c => c = 34) (xk_b S cs.1 r nd o nu a b) So) (h34 : ∀ j, j < cs.1 + 1 → So.1 34 j = nI (cd_un (va_up cs.2.2.2.2.2.2.2 cs.1 cs.1) cs.1 a j)) (hZ : zz_Z (xg_G q) So s_.heap H locs) (hl : lv_has ls 7 [(0, .ref (zz_ad (xg_G q) 27)), (1, .int (nI r)), (2, .int (nI nd)), (3, .int (nI o)), (4, .int nu), (5, .int (vw_s a)), (6, .int (vw_s b))]), W p_ l e_ rm_Code_append s_ m_ ([.ref (zz_ad (xg_G q) 27), .int (nI r), .int (nI nd), .int (nI o), .int nu, .int (vw_s a), .int (vw_s b)] : List Value).toArray bl_ mt_ c_ H locs 0 0 (MQ bl_ (va_Qv (fun S1 => zz_off xk_X S S1 ∧ S1.1 27 14 = S.1 27 14 ∧ xk_ok S1 (cd_ap cs r nd o nu a b)) (zz_P (xg_G q)) (zz_A (xg_G q))) ([.ref (zz_ad (xg_G q) 27), .int (nI r), .int (nI nd), .int (nI o), .int nu, .int (vw_s a), .int (vw_s b)] : List Value).toArray s_ 0 0 (zz_A (xg_G q))) (F0 m_ 94 ls []) := by
    intro So H locs ls ho h34 hZ hl
    have hcn : So.1 27 13 = nI cs.1 := by
      rw [(ho 27 (by omega)).1]
      exact hk.1
    refine lv_iload hx_ hb_ d_Code_append_94 (lv_at hl 6 rfl) ?_
    refine lv_bipush (v := (-3)) hx_ hb_ d_Code_append_96 (by decide) ?_
    refine zz_rjeq (tgt := 112) hC d_Code_append_98 (by decide) (fun h98 => ?_) (fun h98 => ?_)
    · exact J112 So  _ _ _ ho (fun j hj => by
        rw [xk_un_no (vw_s_eq h98)]
        exact h34 j hj) hZ (lv_sub hl [0, 1, 2, 3, 4, 5, 6] rfl)
    · refine lv_aload_n hx_ hb_ d_Code_append_101 rfl (lv_at hl 0 rfl) ?_
      refine zz_get hC hK hZ 27 6 (Nat.le_of_ble_eq_true rfl) (xc_27 q _ _) rfl hin_Code (by decide) wd_187 rfl rfl d_Code_append_102 ?_
      refine lv_iload hx_ hb_ d_Code_append_105 (lv_at hl 6 rfl) ?_
      refine lv_aload_n hx_ hb_ d_Code_append_107 rfl (lv_at hl 0 rfl) ?_
      refine zz_get hC hK hZ 27 13 (Nat.le_of_ble_eq_true rfl) (xc_27 q _ _) rfl hin_Code (by decide) wd_194 rfl rfl d_Code_append_108 ?_
      refine zz_topi (y := nI cs.1) hcn ?_
      refine zz_iast hC hK hZ 34 0 b (Nat.le_of_ble_eq_true rfl) (fun _ => xc_34 q _ _) rfl (vw_s_in (vw_s_ne h98)) (by have := hb (vw_s_ne h98); omega) (by decide) d_Code_append_111 (fun H locs hZ => ?_)
      exact J112 (zz_u So 34 b (nI cs.1))  _ _ _ (zz_off_tr ho (fun d hd => ⟨zz_u1 _ 34 b _ d hd, rfl⟩)) (fun j hj => by
        rw [zz_u1s]
        exact xk_upU (vw_s_ne h98) h34 j hj) hZ (lv_sub hl [0, 1, 2, 3, 4, 5, 6] rfl)
  refine lv_aload_n hx_ hb_ d_Code_append_0 rfl (lv_at hl 0 rfl) ?_
  refine zz_get hC hK hZ 27 0 (Nat.le_of_ble_eq_true rfl) (xc_27 q _ _) rfl hin_Code (by decide) wd_181 rfl rfl d_Code_append_1 ?_
  refine lv_aload_n hx_ hb_ d_Code_append_4 rfl (lv_at hl 0 rfl) ?_
  refine zz_get hC hK hZ 27 13 (Nat.le_of_ble_eq_true rfl) (xc_27 q _ _) rfl hin_Code (by decide) wd_194 rfl rfl d_Code_append_5 ?_
  refine zz_topi (y := nI cs.1) hk.1 ?_
  refine lv_iload_n hx_ hb_ d_Code_append_8 rfl (lv_at hl 1 rfl) ?_
  refine zz_iast hC hK hZ 28 0 cs.1 (Nat.le_of_ble_eq_true rfl) (fun _ => xc_28 q _ _) rfl rfl (by omega) (by decide) d_Code_append_9 (fun H locs hZ => ?_)
  refine lv_aload_n hx_ hb_ d_Code_append_10 rfl (lv_at hl 0 rfl) ?_
  refine zz_get hC hK hZ 27 1 (Nat.le_of_ble_eq_true rfl) (xc_27 q _ _) rfl hin_Code (by decide) wd_182 rfl rfl d_Code_append_11 ?_
  refine lv_aload_n hx_ hb_ d_Code_append_14 rfl (lv_at hl 0 rfl) ?_
  refine zz_get hC hK hZ 27 13 (Nat.le_of_ble_eq_true rfl) (xc_27 q _ _) rfl hin_Code (by decide) wd_194 rfl rfl d_Code_append_15 ?_
  refine zz_topi (y := nI cs.1) hk.1 ?_
  refine lv_iload_n hx_ hb_ d_Code_append_18 rfl (lv_at hl 2 rfl) ?_
  refine zz_iast hC hK hZ 29 0 cs.1 (Nat.le_of_ble_eq_true rfl) (fun _ => xc_29 q _ _) rfl rfl (by omega) (by decide) d_Code_append_19 (fun H locs hZ => ?_)
  refine lv_aload_n hx_ hb_ d_Code_append_20 rfl (lv_at hl 0 rfl) ?_
  refine zz_get hC hK hZ 27 2 (Nat.le_of_ble_eq_true rfl) (xc_27 q _ _) rfl hin_Code (by decide) wd_183 rfl rfl d_Code_append_21 ?_
  refine lv_aload_n hx_ hb_ d_Code_append_24 rfl (lv_at hl 0 rfl) ?_
  refine zz_get hC hK hZ 27 13 (Nat.le_of_ble_eq_true rfl) (xc_27 q _ _) rfl hin_Code (by decide) wd_194 rfl rfl d_Code_append_25 ?_
  refine zz_topi (y := nI cs.1) hk.1 ?_
  refine lv_iload_n hx_ hb_ d_Code_append_28 rfl (lv_at hl 3 rfl) ?_
  refine zz_iast hC hK hZ 30 0 cs.1 (Nat.le_of_ble_eq_true rfl) (fun _ => xc_30 q _ _) rfl rfl (by omega) (by decide) d_Code_append_29 (fun H locs hZ => ?_)
  refine lv_aload_n hx_ hb_ d_Code_append_30 rfl (lv_at hl 0 rfl) ?_
  refine zz_get hC hK hZ 27 3 (Nat.le_of_ble_eq_true rfl) (xc_27 q _ _) rfl hin_Code (by decide) wd_184 rfl rfl d_Code_append_31 ?_
  refine lv_aload_n hx_ hb_ d_Code_append_34 rfl (lv_at hl 0 rfl) ?_
  refine zz_get hC hK hZ 27 13 (Nat.le_of_ble_eq_true rfl) (xc_27 q _ _) rfl hin_Code (by decide) wd_194 rfl rfl d_Code_append_35 ?_
  refine zz_topi (y := nI cs.1) hk.1 ?_
  refine lv_iload hx_ hb_ d_Code_append_38 (lv_at hl 4 rfl) ?_
  refine zz_iast hC hK hZ 31 0 cs.1 (Nat.le_of_ble_eq_true rfl) (fun _ => xc_31 q _ _) rfl rfl (by omega) (by decide) d_Code_append_40 (fun H locs hZ => ?_)
  refine lv_aload_n hx_ hb_ d_Code_append_41 rfl (lv_at hl 0 rfl) ?_
  refine zz_get hC hK hZ 27 4 (Nat.le_of_ble_eq_true rfl) (xc_27 q _ _) rfl hin_Code (by decide) wd_185 rfl rfl d_Code_append_42 ?_
  refine lv_aload_n hx_ hb_ d_Code_append_45 rfl (lv_at hl 0 rfl) ?_
  refine zz_get hC hK hZ 27 13 (Nat.le_of_ble_eq_true rfl) (xc_27 q _ _) rfl hin_Code (by decide) wd_194 rfl rfl d_Code_append_46 ?_
  refine zz_topi (y := nI cs.1) hk.1 ?_
  refine lv_iload hx_ hb_ d_Code_append_49 (lv_at hl 5 rfl) ?_
  refine zz_iast hC hK hZ 32 0 cs.1 (Nat.le_of_ble_eq_true rfl) (fun _ => xc_32 q _ _) rfl rfl (by omega) (by decide) d_Code_append_51 (fun H locs hZ => ?_)
  refine lv_aload_n hx_ hb_ d_Code_append_52 rfl (lv_at hl 0 rfl) ?_
  refine zz_get hC hK hZ 27 5 (Nat.le_of_ble_eq_true rfl) (xc_27 q _ _) rfl hin_Code (by decide) wd_186 rfl rfl d_Code_append_53 ?_
  refine lv_aload_n hx_ hb_ d_Code_append_56 rfl (lv_at hl 0 rfl) ?_
  refine zz_get hC hK hZ 27 13 (Nat.le_of_ble_eq_true rfl) (xc_27 q _ _) rfl hin_Code (by decide) wd_194 rfl rfl d_Code_append_57 ?_
  refine zz_topi (y := nI cs.1) hk.1 ?_
  refine lv_iload hx_ hb_ d_Code_append_60 (lv_at hl 6 rfl) ?_
  refine zz_iast hC hK hZ 33 0 cs.1 (Nat.le_of_ble_eq_true rfl) (fun _ => xc_33 q _ _) rfl rfl (by omega) (by decide) d_Code_append_62 (fun H locs hZ => ?_)
  refine lv_aload_n hx_ hb_ d_Code_append_63 rfl (lv_at hl 0 rfl) ?_
  refine zz_get hC hK hZ 27 6 (Nat.le_of_ble_eq_true rfl) (xc_27 q _ _) rfl hin_Code (by decide) wd_187 rfl rfl d_Code_append_64 ?_
  refine lv_aload_n hx_ hb_ d_Code_append_67 rfl (lv_at hl 0 rfl) ?_
  refine zz_get hC hK hZ 27 13 (Nat.le_of_ble_eq_true rfl) (xc_27 q _ _) rfl hin_Code (by decide) wd_194 rfl rfl d_Code_append_68 ?_
  refine zz_topi (y := nI cs.1) hk.1 ?_
  refine lv_aload_n hx_ hb_ d_Code_append_71 rfl (lv_at hl 0 rfl) ?_
  refine zz_get hC hK hZ 27 13 (Nat.le_of_ble_eq_true rfl) (xc_27 q _ _) rfl hin_Code (by decide) wd_194 rfl rfl d_Code_append_72 ?_
  refine zz_topi (y := nI cs.1) hk.1 ?_
  refine zz_iast hC hK hZ 34 0 cs.1 (Nat.le_of_ble_eq_true rfl) (fun _ => xc_34 q _ _) rfl rfl (by omega) (by decide) d_Code_append_75 (fun H locs hZ => ?_)
  refine lv_iload hx_ hb_ d_Code_append_76 (lv_at hl 5 rfl) ?_
  refine lv_bipush (v := (-3)) hx_ hb_ d_Code_append_78 (by decide) ?_
  refine zz_rjeq (tgt := 94) hC d_Code_append_80 (by decide) (fun h80 => ?_) (fun h80 => ?_)
  · exact J94 (zz_u (zz_u (zz_u (zz_u (zz_u (zz_u (zz_u S 28 cs.1 (nI r)) 29 cs.1 (nI nd)) 30 cs.1 (nI o)) 31 cs.1 nu) 32 cs.1 (vw_s a)) 33 cs.1 (vw_s b)) 34 cs.1 (nI cs.1))  _ _ _ zz_off_rf (fun j hj => by
      rw [xk_un_no (vw_s_eq h80)]
      exact xk_upN (k := 0) (fun j hj => (hk.2.2 j hj).2.2.2.2.2.2) j hj) hZ (lv_sub hl [0, 1, 2, 3, 4, 5, 6] rfl)
  · refine lv_aload_n hx_ hb_ d_Code_append_83 rfl (lv_at hl 0 rfl) ?_
    refine zz_get hC hK hZ 27 6 (Nat.le_of_ble_eq_true rfl) (xc_27 q _ _) rfl hin_Code (by decide) wd_187 rfl rfl d_Code_append_84 ?_
    refine lv_iload hx_ hb_ d_Code_append_87 (lv_at hl 5 rfl) ?_
    refine lv_aload_n hx_ hb_ d_Code_append_89 rfl (lv_at hl 0 rfl) ?_
    refine zz_get hC hK hZ 27 13 (Nat.le_of_ble_eq_true rfl) (xc_27 q _ _) rfl hin_Code (by decide) wd_194 rfl rfl d_Code_append_90 ?_
    refine zz_topi (y := nI cs.1) hk.1 ?_
    refine zz_iast hC hK hZ 34 0 a (Nat.le_of_ble_eq_true rfl) (fun _ => xc_34 q _ _) rfl (vw_s_in (vw_s_ne h80)) (by have := ha (vw_s_ne h80); omega) (by decide) d_Code_append_93 (fun H locs hZ => ?_)
    exact J94 (zz_u (zz_u (zz_u (zz_u (zz_u (zz_u (zz_u (zz_u S 28 cs.1 (nI r)) 29 cs.1 (nI nd)) 30 cs.1 (nI o)) 31 cs.1 nu) 32 cs.1 (vw_s a)) 33 cs.1 (vw_s b)) 34 cs.1 (nI cs.1)) 34 a (nI cs.1))  _ _ _ (fun d hd => ⟨zz_u1 _ 34 a _ d hd, rfl⟩) (fun j hj => by
      rw [zz_u1s]
      exact xk_upU (vw_s_ne h80) (xk_upN (k := 0) (fun j hj => (hk.2.2 j hj).2.2.2.2.2.2)) j hj) hZ (lv_sub hl [0, 1, 2, 3, 4, 5, 6] rfl)
set_option maxHeartbeats 4000000 in
set_option maxRecDepth 100000 in
theorem c_Code_isNeededLonger (l : Launch) (q : xg_T) (S : zz_S) (a b ua ub : Nat) (ha : a < 160) (hb : b < 160) (hua : S.1 34 a = nI ua) (hub : S.1 34 b = nI ub) (h1 : ua < 160) (h2 : ub < 160) : Met l y_Code_isNeededLonger (Cond.code y_Code_isNeededLonger b_Code_isNeededLonger 3 (some .boolean) :: zz_tbl) rm_Code_isNeededLonger (zz_Pc [.ref (zz_ad (xg_G q) 27), .int (nI a), .int (nI b)] (xg_G q) S) (va_Qi (fun ans S1 => S = S1 ∧ ans = nI (if ub < ua ∨ ua = ub ∧ b < a then 1 else 0)) (zz_P (xg_G q)) (zz_A (xg_G q))) 0 0 (zz_A (xg_G q)) := by
  refine zz_met (by decide) (Nat.le_of_ble_eq_true rfl) ?_
  intro p_ e_ s_ m_ bl_ mt_ c_ ls hC hK hZ hl
  have hC : zz_C p_ s_ m_ _ mt_ c_ b_Code_isNeededLonger 3 (some .boolean) "TreeCoverForge$Code" := hC
  have hx_ := hC.1
  have hb_ := hC.2.1
  have hl : lv_has ls 3 [(0, .ref (zz_ad (xg_G q) 27)), (1, .int (nI a)), (2, .int (nI b))] := hl
  refine lv_aload_n hx_ hb_ d_Code_isNeededLonger_0 rfl (lv_at hl 0 rfl) ?_
  refine zz_get hC hK hZ 27 6 (Nat.le_of_ble_eq_true rfl) (xc_27 q _ _) rfl hin_Code (by decide) wd_187 rfl rfl d_Code_isNeededLonger_1 ?_
  refine lv_iload_n hx_ hb_ d_Code_isNeededLonger_4 rfl (lv_at hl 1 rfl) ?_
  refine zz_iald hC hK hZ 34 0 a (Nat.le_of_ble_eq_true rfl) (xc_34 q _ _) rfl rfl (by omega) (by decide) rfl d_Code_isNeededLonger_5 ?_
  refine zz_topi (y := nI ua) hua ?_
  refine lv_aload_n hx_ hb_ d_Code_isNeededLonger_6 rfl (lv_at hl 0 rfl) ?_
  refine zz_get hC hK hZ 27 6 (Nat.le_of_ble_eq_true rfl) (xc_27 q _ _) rfl hin_Code (by decide) wd_187 rfl rfl d_Code_isNeededLonger_7 ?_
  refine lv_iload_n hx_ hb_ d_Code_isNeededLonger_10 rfl (lv_at hl 2 rfl) ?_
  refine zz_iald hC hK hZ 34 0 b (Nat.le_of_ble_eq_true rfl) (xc_34 q _ _) rfl rfl (by omega) (by decide) rfl d_Code_isNeededLonger_11 ?_
  refine zz_topi (y := nI ub) hub ?_
  refine zz_jgt (tgt := 35) hC d_Code_isNeededLonger_12 (by decide) (by omega) (by omega) (fun h12 => ?_) (fun h12 => ?_)
  · refine lv_iconst (v := nI 1) hx_ hb_ d_Code_isNeededLonger_35 (by decide) ?_
    refine lv_goto (tgt := 40) hx_ hb_ d_Code_isNeededLonger_36 (by decide) ?_
    exact zz_zret hC hK hZ rfl d_Code_isNeededLonger_40 (by decide) ⟨rfl, by rw [if_pos (by omega)]⟩
  · refine lv_aload_n hx_ hb_ d_Code_isNeededLonger_15 rfl (lv_at hl 0 rfl) ?_
    refine zz_get hC hK hZ 27 6 (Nat.le_of_ble_eq_true rfl) (xc_27 q _ _) rfl hin_Code (by decide) wd_187 rfl rfl d_Code_isNeededLonger_16 ?_
    refine lv_iload_n hx_ hb_ d_Code_isNeededLonger_19 rfl (lv_at hl 1 rfl) ?_
    refine zz_iald hC hK hZ 34 0 a (Nat.le_of_ble_eq_true rfl) (xc_34 q _ _) rfl rfl (by omega) (by decide) rfl d_Code_isNeededLonger_20 ?_
    refine zz_topi (y := nI ua) hua ?_
    refine lv_aload_n hx_ hb_ d_Code_isNeededLonger_21 rfl (lv_at hl 0 rfl) ?_
    refine zz_get hC hK hZ 27 6 (Nat.le_of_ble_eq_true rfl) (xc_27 q _ _) rfl hin_Code (by decide) wd_187 rfl rfl d_Code_isNeededLonger_22 ?_
    refine lv_iload_n hx_ hb_ d_Code_isNeededLonger_25 rfl (lv_at hl 2 rfl) ?_
    refine zz_iald hC hK hZ 34 0 b (Nat.le_of_ble_eq_true rfl) (xc_34 q _ _) rfl rfl (by omega) (by decide) rfl d_Code_isNeededLonger_26 ?_
    refine zz_topi (y := nI ub) hub ?_
    refine zz_jne (tgt := 39) hC d_Code_isNeededLonger_27 (by decide) (by omega) (by omega) (fun h27 => ?_) (fun h27 => ?_)
    · refine lv_iconst (v := nI 0) hx_ hb_ d_Code_isNeededLonger_39 (by decide) ?_
      exact zz_zret hC hK hZ rfl d_Code_isNeededLonger_40 (by decide) ⟨rfl, by rw [if_neg (by omega)]⟩
    · refine lv_iload_n hx_ hb_ d_Code_isNeededLonger_30 rfl (lv_at hl 1 rfl) ?_
      refine lv_iload_n hx_ hb_ d_Code_isNeededLonger_31 rfl (lv_at hl 2 rfl) ?_
      refine zz_jle (tgt := 39) hC d_Code_isNeededLonger_32 (by decide) (by omega) (by omega) (fun h32 => ?_) (fun h32 => ?_)
      · refine lv_iconst (v := nI 0) hx_ hb_ d_Code_isNeededLonger_39 (by decide) ?_
        exact zz_zret hC hK hZ rfl d_Code_isNeededLonger_40 (by decide) ⟨rfl, by rw [if_neg (by omega)]⟩
      · refine lv_iconst (v := nI 1) hx_ hb_ d_Code_isNeededLonger_35 (by decide) ?_
        refine lv_goto (tgt := 40) hx_ hb_ d_Code_isNeededLonger_36 (by decide) ?_
        exact zz_zret hC hK hZ rfl d_Code_isNeededLonger_40 (by decide) ⟨rfl, by rw [if_pos (by omega)]⟩
set_option maxHeartbeats 4000000 in
set_option maxRecDepth 100000 in
theorem c_Code_placeOf (l : Launch) (q : xg_T) (S : zz_S) (pl : Nat → Nat) (a : Nat) (hp : a < 1000 → a < 160 ∧ S.1 35 a = nI (pl a)) : Met l y_Code_placeOf (Cond.code y_Code_placeOf b_Code_placeOf 2 (some .int) :: zz_tbl) rm_Code_placeOf (zz_Pc [.ref (zz_ad (xg_G q) 27), .int (vw_s a)] (xg_G q) S) (va_Qi (fun ans S1 => S = S1 ∧ ans = if a < 1000 then nI (pl a) else -3) (zz_P (xg_G q)) (zz_A (xg_G q))) 0 0 (zz_A (xg_G q)) := by
  refine zz_met (by decide) (Nat.le_of_ble_eq_true rfl) ?_
  intro p_ e_ s_ m_ bl_ mt_ c_ ls hC hK hZ hl
  have hC : zz_C p_ s_ m_ _ mt_ c_ b_Code_placeOf 2 (some .int) "TreeCoverForge$Code" := hC
  have hx_ := hC.1
  have hb_ := hC.2.1
  have hl : lv_has ls 2 [(0, .ref (zz_ad (xg_G q) 27)), (1, .int (vw_s a))] := hl
  refine lv_iload_n hx_ hb_ d_Code_placeOf_0 rfl (lv_at hl 1 rfl) ?_
  refine lv_bipush (v := (-3)) hx_ hb_ d_Code_placeOf_1 (by decide) ?_
  refine zz_rjne (tgt := 11) hC d_Code_placeOf_3 (by decide) (fun h3 => ?_) (fun h3 => ?_)
  · refine lv_aload_n hx_ hb_ d_Code_placeOf_11 rfl (lv_at hl 0 rfl) ?_
    refine zz_get hC hK hZ 27 7 (Nat.le_of_ble_eq_true rfl) (xc_27 q _ _) rfl hin_Code (by decide) wd_188 rfl rfl d_Code_placeOf_12 ?_
    refine lv_iload_n hx_ hb_ d_Code_placeOf_15 rfl (lv_at hl 1 rfl) ?_
    refine zz_iald hC hK hZ 35 0 a (Nat.le_of_ble_eq_true rfl) (xc_35 q _ _) rfl (vw_s_in (vw_s_ne h3)) (hp (vw_s_ne h3)).1 (by decide) rfl d_Code_placeOf_16 ?_
    refine zz_topi (y := nI (pl a)) (hp (vw_s_ne h3)).2 ?_
    exact zz_iret hC hK hZ rfl d_Code_placeOf_17 ⟨rfl, by rw [if_pos (vw_s_ne h3)]⟩
  · refine lv_bipush (v := (-3)) hx_ hb_ d_Code_placeOf_6 (by decide) ?_
    refine lv_goto (tgt := 17) hx_ hb_ d_Code_placeOf_8 (by decide) ?_
    exact zz_iret hC hK hZ rfl d_Code_placeOf_17 ⟨rfl, by rw [if_neg (vw_s_eq h3)]⟩
set_option maxHeartbeats 4000000 in
set_option maxRecDepth 100000 in
theorem c_Code_tell (l : Launch) (q : xg_T) (S : zz_S) (cs : cd_T) (pl : Nat → Nat) (i w : Nat) (hk : xk_ok S cs) (hi : i < cs.1) (hw : w ≤ 4) (hs : ∀ i, i < cs.1 → (cs.2.2.2.2.2.1 i < 1000 → cs.2.2.2.2.2.1 i < i) ∧ (cs.2.2.2.2.2.2.1 i < 1000 → cs.2.2.2.2.2.2.1 i < i)) (hpl : ∀ i, i < cs.1 → S.1 35 i = nI (pl i)) : Met l y_Code_tell (Cond.code y_Code_tell b_Code_tell 3 (some .int) :: zz_tbl) rm_Code_tell (zz_Pc [.ref (zz_ad (xg_G q) 27), .int (nI i), .int (nI w)] (xg_G q) S) (va_Qi (fun ans S1 => S = S1 ∧ ans = xk_tell cs pl i w) (zz_P (xg_G q)) (zz_A (xg_G q))) 0 0 (zz_A (xg_G q)) := by
  refine zz_met (by decide) (Nat.le_of_ble_eq_true rfl) ?_
  intro p_ e_ s_ m_ bl_ mt_ c_ ls hC hK hZ hl
  have hC : zz_C p_ s_ m_ _ mt_ c_ b_Code_tell 3 (some .int) "TreeCoverForge$Code" := hC
  have hx_ := hC.1
  have hb_ := hC.2.1
  have hl : lv_has ls 3 [(0, .ref (zz_ad (xg_G q) 27)), (1, .int (nI i)), (2, .int (nI w))] := hl
  have hn := hk.2.1
  have hki := hk.2.2 i hi
  refine lv_iload_n hx_ hb_ d_Code_tell_0 rfl (lv_at hl 2 rfl) ?_
  have hcs : w = 0 ∨ w = 1 ∨ w = 2 ∨ w = 3 ∨ 4 ≤ w := by omega
  rcases hcs with rfl | rfl | rfl | rfl | hcs
  · refine lv_tableIn (off := 31) (tgt := 32) hx_ hb_ d_Code_tell_1 (by decide) (by decide) rfl (by decide) ?_
    refine lv_aload_n hx_ hb_ d_Code_tell_32 rfl (lv_at hl 0 rfl) ?_
    refine zz_get hC hK hZ 27 0 (Nat.le_of_ble_eq_true rfl) (xc_27 q _ _) rfl hin_Code (by decide) wd_181 rfl rfl d_Code_tell_33 ?_
    refine lv_iload_n hx_ hb_ d_Code_tell_36 rfl (lv_at hl 1 rfl) ?_
    refine zz_iald hC hK hZ 28 0 i (Nat.le_of_ble_eq_true rfl) (xc_28 q _ _) rfl rfl (by omega) (by decide) rfl d_Code_tell_37 ?_
    refine zz_topi (y := nI (cs.2.1 i)) hki.1 ?_
    exact zz_iret hC hK hZ rfl d_Code_tell_38 ⟨rfl, rfl⟩
  · refine lv_tableIn (off := 38) (tgt := 39) hx_ hb_ d_Code_tell_1 (by decide) (by decide) rfl (by decide) ?_
    refine lv_aload_n hx_ hb_ d_Code_tell_39 rfl (lv_at hl 0 rfl) ?_
    refine zz_get hC hK hZ 27 1 (Nat.le_of_ble_eq_true rfl) (xc_27 q _ _) rfl hin_Code (by decide) wd_182 rfl rfl d_Code_tell_40 ?_
    refine lv_iload_n hx_ hb_ d_Code_tell_43 rfl (lv_at hl 1 rfl) ?_
    refine zz_iald hC hK hZ 29 0 i (Nat.le_of_ble_eq_true rfl) (xc_29 q _ _) rfl rfl (by omega) (by decide) rfl d_Code_tell_44 ?_
    refine zz_topi (y := nI (cs.2.2.1 i)) hki.2.1 ?_
    exact zz_iret hC hK hZ rfl d_Code_tell_45 ⟨rfl, rfl⟩
  · refine lv_tableIn (off := 45) (tgt := 46) hx_ hb_ d_Code_tell_1 (by decide) (by decide) rfl (by decide) ?_
    refine lv_aload_n hx_ hb_ d_Code_tell_46 rfl (lv_at hl 0 rfl) ?_
    refine zz_get hC hK hZ 27 7 (Nat.le_of_ble_eq_true rfl) (xc_27 q _ _) rfl hin_Code (by decide) wd_188 rfl rfl d_Code_tell_47 ?_
    refine lv_iload_n hx_ hb_ d_Code_tell_50 rfl (lv_at hl 1 rfl) ?_
    refine zz_iald hC hK hZ 35 0 i (Nat.le_of_ble_eq_true rfl) (xc_35 q _ _) rfl rfl (by omega) (by decide) rfl d_Code_tell_51 ?_
    refine zz_topi (y := nI (pl i)) (hpl i hi) ?_
    exact zz_iret hC hK hZ rfl d_Code_tell_52 ⟨rfl, rfl⟩
  · refine lv_tableIn (off := 52) (tgt := 53) hx_ hb_ d_Code_tell_1 (by decide) (by decide) rfl (by decide) ?_
    refine lv_aload_n hx_ hb_ d_Code_tell_53 rfl (lv_at hl 0 rfl) ?_
    refine lv_aload_n hx_ hb_ d_Code_tell_54 rfl (lv_at hl 0 rfl) ?_
    refine zz_get hC hK hZ 27 4 (Nat.le_of_ble_eq_true rfl) (xc_27 q _ _) rfl hin_Code (by decide) wd_185 rfl rfl d_Code_tell_55 ?_
    refine lv_iload_n hx_ hb_ d_Code_tell_58 rfl (lv_at hl 1 rfl) ?_
    refine zz_iald hC hK hZ 32 0 i (Nat.le_of_ble_eq_true rfl) (xc_32 q _ _) rfl rfl (by omega) (by decide) rfl d_Code_tell_59 ?_
    refine zz_topi (y := vw_s (cs.2.2.2.2.2.1 i)) hki.2.2.2.2.1 ?_
    refine zz_ci (zz_rV (As := [.int (vw_s (cs.2.2.2.2.2.1 i))]) (rest := []) hC hK hZ 27 (c_Code_placeOf l q S pl (cs.2.2.2.2.2.1 i) (fun h => ⟨by have := (hs i hi).1 h; omega, hpl _ (by have := (hs i hi).1 h; omega)⟩)) k_Code_placeOf (Nat.le_of_ble_eq_true rfl) (xc_27 q _ _) rfl wd_469 ⟨rfl, rfl, by decide, by decide⟩ rfl hl.1 rfl (Nat.le_of_ble_eq_true rfl) d_Code_tell_60 ⟨Nat.zero_le _, Nat.zero_le _⟩) hZ (fun r60 S60 H locs hp60 hZ => ?_)
    obtain ⟨rfl, rfl⟩ := hp60
    exact zz_iret hC hK hZ rfl d_Code_tell_63 ⟨rfl, rfl⟩
  · refine lv_tableOut (tgt := 64) hx_ hb_ d_Code_tell_1 (Or.inr (by rw [nI_toInt (by omega)]; omega)) (by decide) ?_
    refine lv_aload_n hx_ hb_ d_Code_tell_64 rfl (lv_at hl 0 rfl) ?_
    refine lv_aload_n hx_ hb_ d_Code_tell_65 rfl (lv_at hl 0 rfl) ?_
    refine zz_get hC hK hZ 27 5 (Nat.le_of_ble_eq_true rfl) (xc_27 q _ _) rfl hin_Code (by decide) wd_186 rfl rfl d_Code_tell_66 ?_
    refine lv_iload_n hx_ hb_ d_Code_tell_69 rfl (lv_at hl 1 rfl) ?_
    refine zz_iald hC hK hZ 33 0 i (Nat.le_of_ble_eq_true rfl) (xc_33 q _ _) rfl rfl (by omega) (by decide) rfl d_Code_tell_70 ?_
    refine zz_topi (y := vw_s (cs.2.2.2.2.2.2.1 i)) hki.2.2.2.2.2.1 ?_
    refine zz_ci (zz_rV (As := [.int (vw_s (cs.2.2.2.2.2.2.1 i))]) (rest := []) hC hK hZ 27 (c_Code_placeOf l q S pl (cs.2.2.2.2.2.2.1 i) (fun h => ⟨by have := (hs i hi).2 h; omega, hpl _ (by have := (hs i hi).2 h; omega)⟩)) k_Code_placeOf (Nat.le_of_ble_eq_true rfl) (xc_27 q _ _) rfl wd_469 ⟨rfl, rfl, by decide, by decide⟩ rfl hl.1 rfl (Nat.le_of_ble_eq_true rfl) d_Code_tell_71 ⟨Nat.zero_le _, Nat.zero_le _⟩) hZ (fun r71 S71 H locs hp71 hZ => ?_)
    obtain ⟨rfl, rfl⟩ := hp71
    exact zz_iret hC hK hZ rfl d_Code_tell_74 ⟨rfl, by rw [show w = 4 by omega]; rfl⟩
set_option maxHeartbeats 4000000 in
set_option maxRecDepth 100000 in
theorem c_Code_execute (l : Launch) (q : xg_T) (S : zz_S) (cs : cd_T) (pl : Nat → Nat) (reg sc : Nat) (vr : Nat → Int32) (hk : xk_ok S cs) (hcd : cd_ok cs) (hpl : ∀ i, i < cs.1 → S.1 35 i = nI (pl i)) (hplo : pl_ok reg cs.2.2.2.2.2.2.2 cs.1 pl sc) (hps : ∀ i, i < cs.1 → pl i < 164) (hvr : ∀ k, k < 8 → S.1 41 k = vr k) (hops : ∀ i, i < cs.1 → cs.2.2.2.1 i ≤ 8 ∧ (cs.2.2.2.1 i = 1 → cs.2.2.2.2.1 i = nI (cs.2.2.2.2.1 i).toNatClampNeg ∧ (cs.2.2.2.2.1 i).toNatClampNeg < 8)) : Met l y_Code_execute (Cond.code y_Code_execute b_Code_execute 5 (some .int) :: zz_tbl) rm_Code_execute (zz_Pc [.ref (zz_ad (xg_G q) 27), .ref (zz_ad (xg_G q) 41)] (xg_G q) S) (va_Qi (fun ans S1 => zz_off (fun c => c = 36) S S1 ∧ ((cs.1 = 0 ∧ ans = nI 0) ∨ (cs.1 ≠ 0 ∧ ∃ res, ex_ok vr cs res ∧ ans = res (cs.1 - 1)))) (zz_P (xg_G q)) (zz_A (xg_G q))) 0 0 (zz_A (xg_G q)) := by
  refine zz_met (by decide) (Nat.le_of_ble_eq_true rfl) ?_
  intro p_ e_ s_ m_ bl_ mt_ c_ ls hC hK hZ hl
  have hC : zz_C p_ s_ m_ _ mt_ c_ b_Code_execute 5 (some .int) "TreeCoverForge$Code" := hC
  have hx_ := hC.1
  have hb_ := hC.2.1
  have hl : lv_has ls 5 [(0, .ref (zz_ad (xg_G q) 27)), (1, .ref (zz_ad (xg_G q) 41))] := hl
  have hn160 := hk.2.1
  have L11_ : ∀ (n_ : Nat) (i : Nat) (Si : zz_S) (res : Nat → Int32) (H : Heap) (locs : List Loc) (ls : Array Slot) (hn0 : cs.1 ≠ 0) (hi : i ≤ cs.1) (ho : zz_off (fun c => c = 36) S Si) (he : ∀ j, j < i → res j = ex_cal vr (cs.2.2.2.1 j) (cs.2.2.2.2.1 j) (ex_src res (cs.2.2.2.2.2.1 j)) (ex_src res (cs.2.2.2.2.2.2.1 j))) (hm : ex_mem cs.2.2.2.2.2.2.2 pl res (Si.1 36) i) (hZ : zz_Z (xg_G q) Si s_.heap H locs) (hl : lv_has ls 5 [(0, .ref (zz_ad (xg_G q) 27)), (1, .ref (zz_ad (xg_G q) 41)), (2, .int (nI i))]) (hn_ : cs.1 - i = n_), W p_ l e_ rm_Code_execute s_ m_ ([.ref (zz_ad (xg_G q) 27), .ref (zz_ad (xg_G q) 41)] : List Value).toArray bl_ mt_ c_ H locs 0 0 (MQ bl_ (va_Qi (fun ans S1 => zz_off (fun c => c = 36) S S1 ∧ ((cs.1 = 0 ∧ ans = nI 0) ∨ (cs.1 ≠ 0 ∧ ∃ res, ex_ok vr cs res ∧ ans = res (cs.1 - 1)))) (zz_P (xg_G q)) (zz_A (xg_G q))) ([.ref (zz_ad (xg_G q) 27), .ref (zz_ad (xg_G q) 41)] : List Value).toArray s_ 0 0 (zz_A (xg_G q))) (F0 m_ 11 ls []) := by
    intro n_
    induction n_ using Nat.strongRecOn with
    | ind n_ ih_ =>
      intro i Si res H locs ls hn0 hi ho he hm hZ hl hn_
      have e : ∀ c, c ≠ 36 → Si.1 c = S.1 c := fun c hc => (ho c hc).1
      have hki : xk_ok Si cs := by
        unfold xk_ok
        rw [e 27 (by omega), e 28 (by omega), e 29 (by omega), e 30 (by omega), e 31 (by omega), e 32 (by omega), e 33 (by omega), e 34 (by omega)]
        exact hk
      have hpli : ∀ i, i < cs.1 → Si.1 35 i = nI (pl i) := fun i hi => by
        rw [e 35 (by omega)]
        exact hpl i hi
      have hvi : ∀ k, k < 8 → Si.1 41 k = vr k := fun k hk => by
        rw [e 41 (by omega)]
        exact hvr k hk
      refine lv_iload_n hx_ hb_ d_Code_execute_11 rfl (lv_at hl 2 rfl) ?_
      refine lv_aload_n hx_ hb_ d_Code_execute_12 rfl (lv_at hl 0 rfl) ?_
      refine zz_get hC hK hZ 27 13 (Nat.le_of_ble_eq_true rfl) (xc_27 q _ _) rfl hin_Code (by decide) wd_194 rfl rfl d_Code_execute_13 ?_
      refine zz_topi (y := nI cs.1) hki.1 ?_
      refine zz_jge (tgt := 120) hC d_Code_execute_16 (by decide) (by omega) (by omega) (fun h16 => ?_) (fun h16 => ?_)
      · refine lv_aload_n hx_ hb_ d_Code_execute_120 rfl (lv_at hl 0 rfl) ?_
        refine zz_get hC hK hZ 27 8 (Nat.le_of_ble_eq_true rfl) (xc_27 q _ _) rfl hin_Code (by decide) wd_189 rfl rfl d_Code_execute_121 ?_
        refine lv_aload_n hx_ hb_ d_Code_execute_124 rfl (lv_at hl 0 rfl) ?_
        refine zz_get hC hK hZ 27 7 (Nat.le_of_ble_eq_true rfl) (xc_27 q _ _) rfl hin_Code (by decide) wd_188 rfl rfl d_Code_execute_125 ?_
        refine lv_aload_n hx_ hb_ d_Code_execute_128 rfl (lv_at hl 0 rfl) ?_
        refine zz_get hC hK hZ 27 13 (Nat.le_of_ble_eq_true rfl) (xc_27 q _ _) rfl hin_Code (by decide) wd_194 rfl rfl d_Code_execute_129 ?_
        refine zz_topi (y := nI cs.1) hki.1 ?_
        refine lv_iconst (v := nI 1) hx_ hb_ d_Code_execute_132 (by decide) ?_
        refine lv_isub hx_ hb_ d_Code_execute_133 ?_
        refine zz_topi (y := nI (cs.1 - 1)) (pk_sub (by omega)) ?_
        refine zz_iald hC hK hZ 35 0 (cs.1 - 1) (Nat.le_of_ble_eq_true rfl) (xc_35 q _ _) rfl rfl (by omega) (by decide) rfl d_Code_execute_134 ?_
        refine zz_topi (y := nI (pl (cs.1 - 1))) (hpli _ (by omega)) ?_
        refine zz_iald hC hK hZ 36 0 (pl (cs.1 - 1)) (Nat.le_of_ble_eq_true rfl) (xc_36 q _ _) rfl rfl (hps _ (by omega)) (by decide) rfl d_Code_execute_135 ?_
        refine zz_topi (y := res (cs.1 - 1)) (by rw [show cs.1 = i by omega]; exact hm.2 (by omega)) ?_
        exact zz_iret hC hK hZ rfl d_Code_execute_136 ⟨ho, Or.inr ⟨hn0, res, fun j hj => he j (by omega), rfl⟩⟩
      · have hkk := hki.2.2 i (by omega)
        have hop := hops i (by omega)
        have hsa := (hcd i (by omega)).2.2.1
        have hsb := (hcd i (by omega)).2.2.2
        have hgo := ex_go hcd (by omega) hplo he hm (v := ex_cal vr (cs.2.2.2.1 i) (cs.2.2.2.2.1 i) (ex_src res (cs.2.2.2.2.2.1 i)) (ex_src res (cs.2.2.2.2.2.2.1 i))) rfl
        refine lv_aload_n hx_ hb_ d_Code_execute_19 rfl (lv_at hl 0 rfl) ?_
        refine zz_get hC hK hZ 27 4 (Nat.le_of_ble_eq_true rfl) (xc_27 q _ _) rfl hin_Code (by decide) wd_185 rfl rfl d_Code_execute_20 ?_
        refine lv_iload_n hx_ hb_ d_Code_execute_23 rfl (lv_at hl 2 rfl) ?_
        refine zz_iald hC hK hZ 32 0 i (Nat.le_of_ble_eq_true rfl) (xc_32 q _ _) rfl rfl (by omega) (by decide) rfl d_Code_execute_24 ?_
        refine zz_topi (y := vw_s (cs.2.2.2.2.2.1 i)) hkk.2.2.2.2.1 ?_
        refine lv_bipush (v := (-3)) hx_ hb_ d_Code_execute_25 (by decide) ?_
        refine zz_rjne (tgt := 34) hC d_Code_execute_27 (by decide) (fun h27 => ?_) (fun h27 => ?_)
        · refine lv_aload_n hx_ hb_ d_Code_execute_34 rfl (lv_at hl 0 rfl) ?_
          refine zz_get hC hK hZ 27 8 (Nat.le_of_ble_eq_true rfl) (xc_27 q _ _) rfl hin_Code (by decide) wd_189 rfl rfl d_Code_execute_35 ?_
          refine lv_aload_n hx_ hb_ d_Code_execute_38 rfl (lv_at hl 0 rfl) ?_
          refine zz_get hC hK hZ 27 7 (Nat.le_of_ble_eq_true rfl) (xc_27 q _ _) rfl hin_Code (by decide) wd_188 rfl rfl d_Code_execute_39 ?_
          refine lv_aload_n hx_ hb_ d_Code_execute_42 rfl (lv_at hl 0 rfl) ?_
          refine zz_get hC hK hZ 27 4 (Nat.le_of_ble_eq_true rfl) (xc_27 q _ _) rfl hin_Code (by decide) wd_185 rfl rfl d_Code_execute_43 ?_
          refine lv_iload_n hx_ hb_ d_Code_execute_46 rfl (lv_at hl 2 rfl) ?_
          refine zz_iald hC hK hZ 32 0 i (Nat.le_of_ble_eq_true rfl) (xc_32 q _ _) rfl rfl (by omega) (by decide) rfl d_Code_execute_47 ?_
          refine zz_topi (y := vw_s (cs.2.2.2.2.2.1 i)) hkk.2.2.2.2.1 ?_
          refine zz_iald hC hK hZ 35 0 (cs.2.2.2.2.2.1 i) (Nat.le_of_ble_eq_true rfl) (xc_35 q _ _) rfl (vw_s_in (vw_s_ne h27)) (by have := hsa (vw_s_ne h27); omega) (by decide) rfl d_Code_execute_48 ?_
          refine zz_topi (y := nI (pl (cs.2.2.2.2.2.1 i))) (hpli _ (by have := hsa (vw_s_ne h27); omega)) ?_
          refine zz_iald hC hK hZ 36 0 (pl (cs.2.2.2.2.2.1 i)) (Nat.le_of_ble_eq_true rfl) (xc_36 q _ _) rfl rfl (hps _ (by have := hsa (vw_s_ne h27); omega)) (by decide) rfl d_Code_execute_49 ?_
          refine zz_topi (y := ex_src res (cs.2.2.2.2.2.1 i)) (by rw [ex_src, if_pos (vw_s_ne h27)]; exact hm.1 _ (by have := hsa (vw_s_ne h27); omega) (hsa (vw_s_ne h27)).2) ?_
          refine lv_istore_n (i := 3) (lv' := [(3, .int (ex_src res (cs.2.2.2.2.2.1 i))), (0, .ref (zz_ad (xg_G q) 27)), (1, .ref (zz_ad (xg_G q) 41)), (2, .int (nI i))]) hx_ hb_ d_Code_execute_50 rfl hl (by decide) rfl (fun ls hl => ?_)
          refine lv_aload_n hx_ hb_ d_Code_execute_51 rfl (lv_at hl 1 rfl) ?_
          refine zz_get hC hK hZ 27 5 (Nat.le_of_ble_eq_true rfl) (xc_27 q _ _) rfl hin_Code (by decide) wd_186 rfl rfl d_Code_execute_52 ?_
          refine lv_iload_n hx_ hb_ d_Code_execute_55 rfl (lv_at hl 3 rfl) ?_
          refine zz_iald hC hK hZ 33 0 i (Nat.le_of_ble_eq_true rfl) (xc_33 q _ _) rfl rfl (by omega) (by decide) rfl d_Code_execute_56 ?_
          refine zz_topi (y := vw_s (cs.2.2.2.2.2.2.1 i)) hkk.2.2.2.2.2.1 ?_
          refine lv_bipush (v := (-3)) hx_ hb_ d_Code_execute_57 (by decide) ?_
          refine zz_rjne (tgt := 66) hC d_Code_execute_59 (by decide) (fun h59 => ?_) (fun h59 => ?_)
          · refine lv_aload_n hx_ hb_ d_Code_execute_66 rfl (lv_at hl 1 rfl) ?_
            refine zz_get hC hK hZ 27 8 (Nat.le_of_ble_eq_true rfl) (xc_27 q _ _) rfl hin_Code (by decide) wd_189 rfl rfl d_Code_execute_67 ?_
            refine lv_aload_n hx_ hb_ d_Code_execute_70 rfl (lv_at hl 1 rfl) ?_
            refine zz_get hC hK hZ 27 7 (Nat.le_of_ble_eq_true rfl) (xc_27 q _ _) rfl hin_Code (by decide) wd_188 rfl rfl d_Code_execute_71 ?_
            refine lv_aload_n hx_ hb_ d_Code_execute_74 rfl (lv_at hl 1 rfl) ?_
            refine zz_get hC hK hZ 27 5 (Nat.le_of_ble_eq_true rfl) (xc_27 q _ _) rfl hin_Code (by decide) wd_186 rfl rfl d_Code_execute_75 ?_
            refine lv_iload_n hx_ hb_ d_Code_execute_78 rfl (lv_at hl 3 rfl) ?_
            refine zz_iald hC hK hZ 33 0 i (Nat.le_of_ble_eq_true rfl) (xc_33 q _ _) rfl rfl (by omega) (by decide) rfl d_Code_execute_79 ?_
            refine zz_topi (y := vw_s (cs.2.2.2.2.2.2.1 i)) hkk.2.2.2.2.2.1 ?_
            refine zz_iald hC hK hZ 35 0 (cs.2.2.2.2.2.2.1 i) (Nat.le_of_ble_eq_true rfl) (xc_35 q _ _) rfl (vw_s_in (vw_s_ne h59)) (by have := hsb (vw_s_ne h59); omega) (by decide) rfl d_Code_execute_80 ?_
            refine zz_topi (y := nI (pl (cs.2.2.2.2.2.2.1 i))) (hpli _ (by have := hsb (vw_s_ne h59); omega)) ?_
            refine zz_iald hC hK hZ 36 0 (pl (cs.2.2.2.2.2.2.1 i)) (Nat.le_of_ble_eq_true rfl) (xc_36 q _ _) rfl rfl (hps _ (by have := hsb (vw_s_ne h59); omega)) (by decide) rfl d_Code_execute_81 ?_
            refine zz_topi (y := ex_src res (cs.2.2.2.2.2.2.1 i)) (by rw [ex_src, if_pos (vw_s_ne h59)]; exact hm.1 _ (by have := hsb (vw_s_ne h59); omega) (hsb (vw_s_ne h59)).2) ?_
            refine lv_istore (i := 4) (lv' := [(4, .int (ex_src res (cs.2.2.2.2.2.2.1 i))), (3, .int (ex_src res (cs.2.2.2.2.2.1 i))), (0, .ref (zz_ad (xg_G q) 27)), (1, .ref (zz_ad (xg_G q) 41)), (2, .int (nI i))]) hx_ hb_ d_Code_execute_82 hl (by decide) rfl (fun ls hl => ?_)
            refine lv_aload_n hx_ hb_ d_Code_execute_84 rfl (lv_at hl 2 rfl) ?_
            refine zz_get hC hK hZ 27 8 (Nat.le_of_ble_eq_true rfl) (xc_27 q _ _) rfl hin_Code (by decide) wd_189 rfl rfl d_Code_execute_85 ?_
            refine lv_aload_n hx_ hb_ d_Code_execute_88 rfl (lv_at hl 2 rfl) ?_
            refine zz_get hC hK hZ 27 7 (Nat.le_of_ble_eq_true rfl) (xc_27 q _ _) rfl hin_Code (by decide) wd_188 rfl rfl d_Code_execute_89 ?_
            refine lv_iload_n hx_ hb_ d_Code_execute_92 rfl (lv_at hl 4 rfl) ?_
            refine zz_iald hC hK hZ 35 0 i (Nat.le_of_ble_eq_true rfl) (xc_35 q _ _) rfl rfl (by omega) (by decide) rfl d_Code_execute_93 ?_
            refine zz_topi (y := nI (pl i)) (hpli i (by omega)) ?_
            refine lv_aload_n hx_ hb_ d_Code_execute_94 rfl (lv_at hl 2 rfl) ?_
            refine zz_get hC hK hZ 27 2 (Nat.le_of_ble_eq_true rfl) (xc_27 q _ _) rfl hin_Code (by decide) wd_183 rfl rfl d_Code_execute_95 ?_
            refine lv_iload_n hx_ hb_ d_Code_execute_98 rfl (lv_at hl 4 rfl) ?_
            refine zz_iald hC hK hZ 30 0 i (Nat.le_of_ble_eq_true rfl) (xc_30 q _ _) rfl rfl (by omega) (by decide) rfl d_Code_execute_99 ?_
            refine zz_topi (y := nI (cs.2.2.2.1 i)) hkk.2.2.1 ?_
            refine lv_aload_n hx_ hb_ d_Code_execute_100 rfl (lv_at hl 2 rfl) ?_
            refine zz_get hC hK hZ 27 3 (Nat.le_of_ble_eq_true rfl) (xc_27 q _ _) rfl hin_Code (by decide) wd_184 rfl rfl d_Code_execute_101 ?_
            refine lv_iload_n hx_ hb_ d_Code_execute_104 rfl (lv_at hl 4 rfl) ?_
            refine zz_iald hC hK hZ 31 0 i (Nat.le_of_ble_eq_true rfl) (xc_31 q _ _) rfl rfl (by omega) (by decide) rfl d_Code_execute_105 ?_
            refine zz_topi (y := cs.2.2.2.2.1 i) hkk.2.2.2.1 ?_
            refine lv_iload_n hx_ hb_ d_Code_execute_106 rfl (lv_at hl 1 rfl) ?_
            refine lv_iload hx_ hb_ d_Code_execute_107 (lv_at hl 0 rfl) ?_
            refine lv_aload_n hx_ hb_ d_Code_execute_109 rfl (lv_at hl 3 rfl) ?_
            refine zz_ci (zz_rSN (As := [.int (nI (cs.2.2.2.1 i)), .int (cs.2.2.2.2.1 i), .int (ex_src res (cs.2.2.2.2.2.1 i)), .int (ex_src res (cs.2.2.2.2.2.2.1 i)), .ref (zz_ad (xg_G q) 41)]) (rest := [.int (nI (pl i)), .ref (zz_ad (xg_G q) 36)]) hC hK hZ (c_Forge_resultOf l q Si (cs.2.2.2.1 i) (cs.2.2.2.2.1 i) (ex_src res (cs.2.2.2.2.2.1 i)) (ex_src res (cs.2.2.2.2.2.2.1 i)) hop.1 hop.2) k_Forge_resultOf wd_489 ⟨rfl, rfl, by decide, by decide⟩ rfl hl.1 rfl (Nat.le_of_ble_eq_true rfl) d_Code_execute_110 ⟨Nat.zero_le _, Nat.zero_le _⟩) hZ (fun r110 S110 H locs hp110 hZ => ?_)
            obtain ⟨rfl, rfl⟩ := hp110
            rw [ex_cv (hvi : ∀ k, k < 8 → Si.1 41 k = vr k) hop.2]
            refine zz_iast hC hK hZ 36 0 (pl i) (Nat.le_of_ble_eq_true rfl) (fun _ => xc_36 q _ _) rfl rfl (hps i (by omega)) (by decide) d_Code_execute_113 (fun H locs hZ => ?_)
            refine lv_iinc (k := 4) (v := nI (i + 1)) (lv' := [(2, .int (nI (i + 1))), (4, .int (ex_src res (cs.2.2.2.2.2.2.1 i))), (3, .int (ex_src res (cs.2.2.2.2.2.1 i))), (0, .ref (zz_ad (xg_G q) 27)), (1, .ref (zz_ad (xg_G q) 41))]) hx_ hb_ d_Code_execute_114 hl rfl (nI_add _ 1) (by decide) rfl (fun ls hl => ?_)
            refine lv_goto (tgt := 11) hx_ hb_ d_Code_execute_117 (by decide) ?_
            exact ih_ _ (by omega) (i + 1) (zz_u Si 36 (pl i) (ex_cal vr (cs.2.2.2.1 i) (cs.2.2.2.2.1 i) (ex_src res (cs.2.2.2.2.2.1 i)) (ex_src res (cs.2.2.2.2.2.2.1 i)))) (upd res i (ex_cal vr (cs.2.2.2.1 i) (cs.2.2.2.2.1 i) (ex_src res (cs.2.2.2.2.2.1 i)) (ex_src res (cs.2.2.2.2.2.2.1 i))))  _ _ _ hn0 (by omega) (zz_off_tr ho (fun d hd => ⟨zz_u1 Si 36 _ _ d hd, rfl⟩)) hgo.1 (by
              rw [zz_u1s]
              exact hgo.2) hZ (lv_sub hl [3, 4, 0] rfl) rfl
          · refine lv_iconst (v := nI 0) hx_ hb_ d_Code_execute_62 (by decide) ?_
            refine zz_topi (y := ex_src res (cs.2.2.2.2.2.2.1 i)) (by rw [ex_src, if_neg (vw_s_eq h59)]; rfl) ?_
            refine lv_goto (tgt := 82) hx_ hb_ d_Code_execute_63 (by decide) ?_
            refine lv_istore (i := 4) (lv' := [(4, .int (ex_src res (cs.2.2.2.2.2.2.1 i))), (3, .int (ex_src res (cs.2.2.2.2.2.1 i))), (0, .ref (zz_ad (xg_G q) 27)), (1, .ref (zz_ad (xg_G q) 41)), (2, .int (nI i))]) hx_ hb_ d_Code_execute_82 hl (by decide) rfl (fun ls hl => ?_)
            refine lv_aload_n hx_ hb_ d_Code_execute_84 rfl (lv_at hl 2 rfl) ?_
            refine zz_get hC hK hZ 27 8 (Nat.le_of_ble_eq_true rfl) (xc_27 q _ _) rfl hin_Code (by decide) wd_189 rfl rfl d_Code_execute_85 ?_
            refine lv_aload_n hx_ hb_ d_Code_execute_88 rfl (lv_at hl 2 rfl) ?_
            refine zz_get hC hK hZ 27 7 (Nat.le_of_ble_eq_true rfl) (xc_27 q _ _) rfl hin_Code (by decide) wd_188 rfl rfl d_Code_execute_89 ?_
            refine lv_iload_n hx_ hb_ d_Code_execute_92 rfl (lv_at hl 4 rfl) ?_
            refine zz_iald hC hK hZ 35 0 i (Nat.le_of_ble_eq_true rfl) (xc_35 q _ _) rfl rfl (by omega) (by decide) rfl d_Code_execute_93 ?_
            refine zz_topi (y := nI (pl i)) (hpli i (by omega)) ?_
            refine lv_aload_n hx_ hb_ d_Code_execute_94 rfl (lv_at hl 2 rfl) ?_
            refine zz_get hC hK hZ 27 2 (Nat.le_of_ble_eq_true rfl) (xc_27 q _ _) rfl hin_Code (by decide) wd_183 rfl rfl d_Code_execute_95 ?_
            refine lv_iload_n hx_ hb_ d_Code_execute_98 rfl (lv_at hl 4 rfl) ?_
            refine zz_iald hC hK hZ 30 0 i (Nat.le_of_ble_eq_true rfl) (xc_30 q _ _) rfl rfl (by omega) (by decide) rfl d_Code_execute_99 ?_
            refine zz_topi (y := nI (cs.2.2.2.1 i)) hkk.2.2.1 ?_
            refine lv_aload_n hx_ hb_ d_Code_execute_100 rfl (lv_at hl 2 rfl) ?_
            refine zz_get hC hK hZ 27 3 (Nat.le_of_ble_eq_true rfl) (xc_27 q _ _) rfl hin_Code (by decide) wd_184 rfl rfl d_Code_execute_101 ?_
            refine lv_iload_n hx_ hb_ d_Code_execute_104 rfl (lv_at hl 4 rfl) ?_
            refine zz_iald hC hK hZ 31 0 i (Nat.le_of_ble_eq_true rfl) (xc_31 q _ _) rfl rfl (by omega) (by decide) rfl d_Code_execute_105 ?_
            refine zz_topi (y := cs.2.2.2.2.1 i) hkk.2.2.2.1 ?_
            refine lv_iload_n hx_ hb_ d_Code_execute_106 rfl (lv_at hl 1 rfl) ?_
            refine lv_iload hx_ hb_ d_Code_execute_107 (lv_at hl 0 rfl) ?_
            refine lv_aload_n hx_ hb_ d_Code_execute_109 rfl (lv_at hl 3 rfl) ?_
            refine zz_ci (zz_rSN (As := [.int (nI (cs.2.2.2.1 i)), .int (cs.2.2.2.2.1 i), .int (ex_src res (cs.2.2.2.2.2.1 i)), .int (ex_src res (cs.2.2.2.2.2.2.1 i)), .ref (zz_ad (xg_G q) 41)]) (rest := [.int (nI (pl i)), .ref (zz_ad (xg_G q) 36)]) hC hK hZ (c_Forge_resultOf l q Si (cs.2.2.2.1 i) (cs.2.2.2.2.1 i) (ex_src res (cs.2.2.2.2.2.1 i)) (ex_src res (cs.2.2.2.2.2.2.1 i)) hop.1 hop.2) k_Forge_resultOf wd_489 ⟨rfl, rfl, by decide, by decide⟩ rfl hl.1 rfl (Nat.le_of_ble_eq_true rfl) d_Code_execute_110 ⟨Nat.zero_le _, Nat.zero_le _⟩) hZ (fun r110 S110 H locs hp110 hZ => ?_)
            obtain ⟨rfl, rfl⟩ := hp110
            rw [ex_cv (hvi : ∀ k, k < 8 → Si.1 41 k = vr k) hop.2]
            refine zz_iast hC hK hZ 36 0 (pl i) (Nat.le_of_ble_eq_true rfl) (fun _ => xc_36 q _ _) rfl rfl (hps i (by omega)) (by decide) d_Code_execute_113 (fun H locs hZ => ?_)
            refine lv_iinc (k := 4) (v := nI (i + 1)) (lv' := [(2, .int (nI (i + 1))), (4, .int (ex_src res (cs.2.2.2.2.2.2.1 i))), (3, .int (ex_src res (cs.2.2.2.2.2.1 i))), (0, .ref (zz_ad (xg_G q) 27)), (1, .ref (zz_ad (xg_G q) 41))]) hx_ hb_ d_Code_execute_114 hl rfl (nI_add _ 1) (by decide) rfl (fun ls hl => ?_)
            refine lv_goto (tgt := 11) hx_ hb_ d_Code_execute_117 (by decide) ?_
            exact ih_ _ (by omega) (i + 1) (zz_u Si 36 (pl i) (ex_cal vr (cs.2.2.2.1 i) (cs.2.2.2.2.1 i) (ex_src res (cs.2.2.2.2.2.1 i)) (ex_src res (cs.2.2.2.2.2.2.1 i)))) (upd res i (ex_cal vr (cs.2.2.2.1 i) (cs.2.2.2.2.1 i) (ex_src res (cs.2.2.2.2.2.1 i)) (ex_src res (cs.2.2.2.2.2.2.1 i))))  _ _ _ hn0 (by omega) (zz_off_tr ho (fun d hd => ⟨zz_u1 Si 36 _ _ d hd, rfl⟩)) hgo.1 (by
              rw [zz_u1s]
              exact hgo.2) hZ (lv_sub hl [3, 4, 0] rfl) rfl
        · refine lv_iconst (v := nI 0) hx_ hb_ d_Code_execute_30 (by decide) ?_
          refine zz_topi (y := ex_src res (cs.2.2.2.2.2.1 i)) (by rw [ex_src, if_neg (vw_s_eq h27)]; rfl) ?_
          refine lv_goto (tgt := 50) hx_ hb_ d_Code_execute_31 (by decide) ?_
          refine lv_istore_n (i := 3) (lv' := [(3, .int (ex_src res (cs.2.2.2.2.2.1 i))), (0, .ref (zz_ad (xg_G q) 27)), (1, .ref (zz_ad (xg_G q) 41)), (2, .int (nI i))]) hx_ hb_ d_Code_execute_50 rfl hl (by decide) rfl (fun ls hl => ?_)
          refine lv_aload_n hx_ hb_ d_Code_execute_51 rfl (lv_at hl 1 rfl) ?_
          refine zz_get hC hK hZ 27 5 (Nat.le_of_ble_eq_true rfl) (xc_27 q _ _) rfl hin_Code (by decide) wd_186 rfl rfl d_Code_execute_52 ?_
          refine lv_iload_n hx_ hb_ d_Code_execute_55 rfl (lv_at hl 3 rfl) ?_
          refine zz_iald hC hK hZ 33 0 i (Nat.le_of_ble_eq_true rfl) (xc_33 q _ _) rfl rfl (by omega) (by decide) rfl d_Code_execute_56 ?_
          refine zz_topi (y := vw_s (cs.2.2.2.2.2.2.1 i)) hkk.2.2.2.2.2.1 ?_
          refine lv_bipush (v := (-3)) hx_ hb_ d_Code_execute_57 (by decide) ?_
          refine zz_rjne (tgt := 66) hC d_Code_execute_59 (by decide) (fun h59 => ?_) (fun h59 => ?_)
          · refine lv_aload_n hx_ hb_ d_Code_execute_66 rfl (lv_at hl 1 rfl) ?_
            refine zz_get hC hK hZ 27 8 (Nat.le_of_ble_eq_true rfl) (xc_27 q _ _) rfl hin_Code (by decide) wd_189 rfl rfl d_Code_execute_67 ?_
            refine lv_aload_n hx_ hb_ d_Code_execute_70 rfl (lv_at hl 1 rfl) ?_
            refine zz_get hC hK hZ 27 7 (Nat.le_of_ble_eq_true rfl) (xc_27 q _ _) rfl hin_Code (by decide) wd_188 rfl rfl d_Code_execute_71 ?_
            refine lv_aload_n hx_ hb_ d_Code_execute_74 rfl (lv_at hl 1 rfl) ?_
            refine zz_get hC hK hZ 27 5 (Nat.le_of_ble_eq_true rfl) (xc_27 q _ _) rfl hin_Code (by decide) wd_186 rfl rfl d_Code_execute_75 ?_
            refine lv_iload_n hx_ hb_ d_Code_execute_78 rfl (lv_at hl 3 rfl) ?_
            refine zz_iald hC hK hZ 33 0 i (Nat.le_of_ble_eq_true rfl) (xc_33 q _ _) rfl rfl (by omega) (by decide) rfl d_Code_execute_79 ?_
            refine zz_topi (y := vw_s (cs.2.2.2.2.2.2.1 i)) hkk.2.2.2.2.2.1 ?_
            refine zz_iald hC hK hZ 35 0 (cs.2.2.2.2.2.2.1 i) (Nat.le_of_ble_eq_true rfl) (xc_35 q _ _) rfl (vw_s_in (vw_s_ne h59)) (by have := hsb (vw_s_ne h59); omega) (by decide) rfl d_Code_execute_80 ?_
            refine zz_topi (y := nI (pl (cs.2.2.2.2.2.2.1 i))) (hpli _ (by have := hsb (vw_s_ne h59); omega)) ?_
            refine zz_iald hC hK hZ 36 0 (pl (cs.2.2.2.2.2.2.1 i)) (Nat.le_of_ble_eq_true rfl) (xc_36 q _ _) rfl rfl (hps _ (by have := hsb (vw_s_ne h59); omega)) (by decide) rfl d_Code_execute_81 ?_
            refine zz_topi (y := ex_src res (cs.2.2.2.2.2.2.1 i)) (by rw [ex_src, if_pos (vw_s_ne h59)]; exact hm.1 _ (by have := hsb (vw_s_ne h59); omega) (hsb (vw_s_ne h59)).2) ?_
            refine lv_istore (i := 4) (lv' := [(4, .int (ex_src res (cs.2.2.2.2.2.2.1 i))), (3, .int (ex_src res (cs.2.2.2.2.2.1 i))), (0, .ref (zz_ad (xg_G q) 27)), (1, .ref (zz_ad (xg_G q) 41)), (2, .int (nI i))]) hx_ hb_ d_Code_execute_82 hl (by decide) rfl (fun ls hl => ?_)
            refine lv_aload_n hx_ hb_ d_Code_execute_84 rfl (lv_at hl 2 rfl) ?_
            refine zz_get hC hK hZ 27 8 (Nat.le_of_ble_eq_true rfl) (xc_27 q _ _) rfl hin_Code (by decide) wd_189 rfl rfl d_Code_execute_85 ?_
            refine lv_aload_n hx_ hb_ d_Code_execute_88 rfl (lv_at hl 2 rfl) ?_
            refine zz_get hC hK hZ 27 7 (Nat.le_of_ble_eq_true rfl) (xc_27 q _ _) rfl hin_Code (by decide) wd_188 rfl rfl d_Code_execute_89 ?_
            refine lv_iload_n hx_ hb_ d_Code_execute_92 rfl (lv_at hl 4 rfl) ?_
            refine zz_iald hC hK hZ 35 0 i (Nat.le_of_ble_eq_true rfl) (xc_35 q _ _) rfl rfl (by omega) (by decide) rfl d_Code_execute_93 ?_
            refine zz_topi (y := nI (pl i)) (hpli i (by omega)) ?_
            refine lv_aload_n hx_ hb_ d_Code_execute_94 rfl (lv_at hl 2 rfl) ?_
            refine zz_get hC hK hZ 27 2 (Nat.le_of_ble_eq_true rfl) (xc_27 q _ _) rfl hin_Code (by decide) wd_183 rfl rfl d_Code_execute_95 ?_
            refine lv_iload_n hx_ hb_ d_Code_execute_98 rfl (lv_at hl 4 rfl) ?_
            refine zz_iald hC hK hZ 30 0 i (Nat.le_of_ble_eq_true rfl) (xc_30 q _ _) rfl rfl (by omega) (by decide) rfl d_Code_execute_99 ?_
            refine zz_topi (y := nI (cs.2.2.2.1 i)) hkk.2.2.1 ?_
            refine lv_aload_n hx_ hb_ d_Code_execute_100 rfl (lv_at hl 2 rfl) ?_
            refine zz_get hC hK hZ 27 3 (Nat.le_of_ble_eq_true rfl) (xc_27 q _ _) rfl hin_Code (by decide) wd_184 rfl rfl d_Code_execute_101 ?_
            refine lv_iload_n hx_ hb_ d_Code_execute_104 rfl (lv_at hl 4 rfl) ?_
            refine zz_iald hC hK hZ 31 0 i (Nat.le_of_ble_eq_true rfl) (xc_31 q _ _) rfl rfl (by omega) (by decide) rfl d_Code_execute_105 ?_
            refine zz_topi (y := cs.2.2.2.2.1 i) hkk.2.2.2.1 ?_
            refine lv_iload_n hx_ hb_ d_Code_execute_106 rfl (lv_at hl 1 rfl) ?_
            refine lv_iload hx_ hb_ d_Code_execute_107 (lv_at hl 0 rfl) ?_
            refine lv_aload_n hx_ hb_ d_Code_execute_109 rfl (lv_at hl 3 rfl) ?_
            refine zz_ci (zz_rSN (As := [.int (nI (cs.2.2.2.1 i)), .int (cs.2.2.2.2.1 i), .int (ex_src res (cs.2.2.2.2.2.1 i)), .int (ex_src res (cs.2.2.2.2.2.2.1 i)), .ref (zz_ad (xg_G q) 41)]) (rest := [.int (nI (pl i)), .ref (zz_ad (xg_G q) 36)]) hC hK hZ (c_Forge_resultOf l q Si (cs.2.2.2.1 i) (cs.2.2.2.2.1 i) (ex_src res (cs.2.2.2.2.2.1 i)) (ex_src res (cs.2.2.2.2.2.2.1 i)) hop.1 hop.2) k_Forge_resultOf wd_489 ⟨rfl, rfl, by decide, by decide⟩ rfl hl.1 rfl (Nat.le_of_ble_eq_true rfl) d_Code_execute_110 ⟨Nat.zero_le _, Nat.zero_le _⟩) hZ (fun r110 S110 H locs hp110 hZ => ?_)
            obtain ⟨rfl, rfl⟩ := hp110
            rw [ex_cv (hvi : ∀ k, k < 8 → Si.1 41 k = vr k) hop.2]
            refine zz_iast hC hK hZ 36 0 (pl i) (Nat.le_of_ble_eq_true rfl) (fun _ => xc_36 q _ _) rfl rfl (hps i (by omega)) (by decide) d_Code_execute_113 (fun H locs hZ => ?_)
            refine lv_iinc (k := 4) (v := nI (i + 1)) (lv' := [(2, .int (nI (i + 1))), (4, .int (ex_src res (cs.2.2.2.2.2.2.1 i))), (3, .int (ex_src res (cs.2.2.2.2.2.1 i))), (0, .ref (zz_ad (xg_G q) 27)), (1, .ref (zz_ad (xg_G q) 41))]) hx_ hb_ d_Code_execute_114 hl rfl (nI_add _ 1) (by decide) rfl (fun ls hl => ?_)
            refine lv_goto (tgt := 11) hx_ hb_ d_Code_execute_117 (by decide) ?_
            exact ih_ _ (by omega) (i + 1) (zz_u Si 36 (pl i) (ex_cal vr (cs.2.2.2.1 i) (cs.2.2.2.2.1 i) (ex_src res (cs.2.2.2.2.2.1 i)) (ex_src res (cs.2.2.2.2.2.2.1 i)))) (upd res i (ex_cal vr (cs.2.2.2.1 i) (cs.2.2.2.2.1 i) (ex_src res (cs.2.2.2.2.2.1 i)) (ex_src res (cs.2.2.2.2.2.2.1 i))))  _ _ _ hn0 (by omega) (zz_off_tr ho (fun d hd => ⟨zz_u1 Si 36 _ _ d hd, rfl⟩)) hgo.1 (by
              rw [zz_u1s]
              exact hgo.2) hZ (lv_sub hl [3, 4, 0] rfl) rfl
          · refine lv_iconst (v := nI 0) hx_ hb_ d_Code_execute_62 (by decide) ?_
            refine zz_topi (y := ex_src res (cs.2.2.2.2.2.2.1 i)) (by rw [ex_src, if_neg (vw_s_eq h59)]; rfl) ?_
            refine lv_goto (tgt := 82) hx_ hb_ d_Code_execute_63 (by decide) ?_
            refine lv_istore (i := 4) (lv' := [(4, .int (ex_src res (cs.2.2.2.2.2.2.1 i))), (3, .int (ex_src res (cs.2.2.2.2.2.1 i))), (0, .ref (zz_ad (xg_G q) 27)), (1, .ref (zz_ad (xg_G q) 41)), (2, .int (nI i))]) hx_ hb_ d_Code_execute_82 hl (by decide) rfl (fun ls hl => ?_)
            refine lv_aload_n hx_ hb_ d_Code_execute_84 rfl (lv_at hl 2 rfl) ?_
            refine zz_get hC hK hZ 27 8 (Nat.le_of_ble_eq_true rfl) (xc_27 q _ _) rfl hin_Code (by decide) wd_189 rfl rfl d_Code_execute_85 ?_
            refine lv_aload_n hx_ hb_ d_Code_execute_88 rfl (lv_at hl 2 rfl) ?_
            refine zz_get hC hK hZ 27 7 (Nat.le_of_ble_eq_true rfl) (xc_27 q _ _) rfl hin_Code (by decide) wd_188 rfl rfl d_Code_execute_89 ?_
            refine lv_iload_n hx_ hb_ d_Code_execute_92 rfl (lv_at hl 4 rfl) ?_
            refine zz_iald hC hK hZ 35 0 i (Nat.le_of_ble_eq_true rfl) (xc_35 q _ _) rfl rfl (by omega) (by decide) rfl d_Code_execute_93 ?_
            refine zz_topi (y := nI (pl i)) (hpli i (by omega)) ?_
            refine lv_aload_n hx_ hb_ d_Code_execute_94 rfl (lv_at hl 2 rfl) ?_
            refine zz_get hC hK hZ 27 2 (Nat.le_of_ble_eq_true rfl) (xc_27 q _ _) rfl hin_Code (by decide) wd_183 rfl rfl d_Code_execute_95 ?_
            refine lv_iload_n hx_ hb_ d_Code_execute_98 rfl (lv_at hl 4 rfl) ?_
            refine zz_iald hC hK hZ 30 0 i (Nat.le_of_ble_eq_true rfl) (xc_30 q _ _) rfl rfl (by omega) (by decide) rfl d_Code_execute_99 ?_
            refine zz_topi (y := nI (cs.2.2.2.1 i)) hkk.2.2.1 ?_
            refine lv_aload_n hx_ hb_ d_Code_execute_100 rfl (lv_at hl 2 rfl) ?_
            refine zz_get hC hK hZ 27 3 (Nat.le_of_ble_eq_true rfl) (xc_27 q _ _) rfl hin_Code (by decide) wd_184 rfl rfl d_Code_execute_101 ?_
            refine lv_iload_n hx_ hb_ d_Code_execute_104 rfl (lv_at hl 4 rfl) ?_
            refine zz_iald hC hK hZ 31 0 i (Nat.le_of_ble_eq_true rfl) (xc_31 q _ _) rfl rfl (by omega) (by decide) rfl d_Code_execute_105 ?_
            refine zz_topi (y := cs.2.2.2.2.1 i) hkk.2.2.2.1 ?_
            refine lv_iload_n hx_ hb_ d_Code_execute_106 rfl (lv_at hl 1 rfl) ?_
            refine lv_iload hx_ hb_ d_Code_execute_107 (lv_at hl 0 rfl) ?_
            refine lv_aload_n hx_ hb_ d_Code_execute_109 rfl (lv_at hl 3 rfl) ?_
            refine zz_ci (zz_rSN (As := [.int (nI (cs.2.2.2.1 i)), .int (cs.2.2.2.2.1 i), .int (ex_src res (cs.2.2.2.2.2.1 i)), .int (ex_src res (cs.2.2.2.2.2.2.1 i)), .ref (zz_ad (xg_G q) 41)]) (rest := [.int (nI (pl i)), .ref (zz_ad (xg_G q) 36)]) hC hK hZ (c_Forge_resultOf l q Si (cs.2.2.2.1 i) (cs.2.2.2.2.1 i) (ex_src res (cs.2.2.2.2.2.1 i)) (ex_src res (cs.2.2.2.2.2.2.1 i)) hop.1 hop.2) k_Forge_resultOf wd_489 ⟨rfl, rfl, by decide, by decide⟩ rfl hl.1 rfl (Nat.le_of_ble_eq_true rfl) d_Code_execute_110 ⟨Nat.zero_le _, Nat.zero_le _⟩) hZ (fun r110 S110 H locs hp110 hZ => ?_)
            obtain ⟨rfl, rfl⟩ := hp110
            rw [ex_cv (hvi : ∀ k, k < 8 → Si.1 41 k = vr k) hop.2]
            refine zz_iast hC hK hZ 36 0 (pl i) (Nat.le_of_ble_eq_true rfl) (fun _ => xc_36 q _ _) rfl rfl (hps i (by omega)) (by decide) d_Code_execute_113 (fun H locs hZ => ?_)
            refine lv_iinc (k := 4) (v := nI (i + 1)) (lv' := [(2, .int (nI (i + 1))), (4, .int (ex_src res (cs.2.2.2.2.2.2.1 i))), (3, .int (ex_src res (cs.2.2.2.2.2.1 i))), (0, .ref (zz_ad (xg_G q) 27)), (1, .ref (zz_ad (xg_G q) 41))]) hx_ hb_ d_Code_execute_114 hl rfl (nI_add _ 1) (by decide) rfl (fun ls hl => ?_)
            refine lv_goto (tgt := 11) hx_ hb_ d_Code_execute_117 (by decide) ?_
            exact ih_ _ (by omega) (i + 1) (zz_u Si 36 (pl i) (ex_cal vr (cs.2.2.2.1 i) (cs.2.2.2.2.1 i) (ex_src res (cs.2.2.2.2.2.1 i)) (ex_src res (cs.2.2.2.2.2.2.1 i)))) (upd res i (ex_cal vr (cs.2.2.2.1 i) (cs.2.2.2.2.1 i) (ex_src res (cs.2.2.2.2.2.1 i)) (ex_src res (cs.2.2.2.2.2.2.1 i))))  _ _ _ hn0 (by omega) (zz_off_tr ho (fun d hd => ⟨zz_u1 Si 36 _ _ d hd, rfl⟩)) hgo.1 (by
              rw [zz_u1s]
              exact hgo.2) hZ (lv_sub hl [3, 4, 0] rfl) rfl
  have L11 : ∀ (i : Nat) (Si : zz_S) (res : Nat → Int32) (H : Heap) (locs : List Loc) (ls : Array Slot) (hn0 : cs.1 ≠ 0) (hi : i ≤ cs.1) (ho : zz_off (fun c => c = 36) S Si) (he : ∀ j, j < i → res j = ex_cal vr (cs.2.2.2.1 j) (cs.2.2.2.2.1 j) (ex_src res (cs.2.2.2.2.2.1 j)) (ex_src res (cs.2.2.2.2.2.2.1 j))) (hm : ex_mem cs.2.2.2.2.2.2.2 pl res (Si.1 36) i) (hZ : zz_Z (xg_G q) Si s_.heap H locs) (hl : lv_has ls 5 [(0, .ref (zz_ad (xg_G q) 27)), (1, .ref (zz_ad (xg_G q) 41)), (2, .int (nI i))]), W p_ l e_ rm_Code_execute s_ m_ ([.ref (zz_ad (xg_G q) 27), .ref (zz_ad (xg_G q) 41)] : List Value).toArray bl_ mt_ c_ H locs 0 0 (MQ bl_ (va_Qi (fun ans S1 => zz_off (fun c => c = 36) S S1 ∧ ((cs.1 = 0 ∧ ans = nI 0) ∨ (cs.1 ≠ 0 ∧ ∃ res, ex_ok vr cs res ∧ ans = res (cs.1 - 1)))) (zz_P (xg_G q)) (zz_A (xg_G q))) ([.ref (zz_ad (xg_G q) 27), .ref (zz_ad (xg_G q) 41)] : List Value).toArray s_ 0 0 (zz_A (xg_G q))) (F0 m_ 11 ls []) := fun i Si res H locs ls hn0 hi ho he hm hZ hl => L11_ _ i Si res H locs ls hn0 hi ho he hm hZ hl rfl
  refine lv_aload_n hx_ hb_ d_Code_execute_0 rfl (lv_at hl 0 rfl) ?_
  refine zz_get hC hK hZ 27 13 (Nat.le_of_ble_eq_true rfl) (xc_27 q _ _) rfl hin_Code (by decide) wd_194 rfl rfl d_Code_execute_1 ?_
  refine zz_topi (y := nI cs.1) hk.1 ?_
  refine zz_ine (tgt := 9) hC d_Code_execute_4 (by decide) (by omega) (fun h4 => ?_) (fun h4 => ?_)
  · refine lv_iconst (v := nI 0) hx_ hb_ d_Code_execute_9 (by decide) ?_
    refine lv_istore_n (i := 2) (lv' := [(2, .int (nI 0)), (0, .ref (zz_ad (xg_G q) 27)), (1, .ref (zz_ad (xg_G q) 41))]) hx_ hb_ d_Code_execute_10 rfl hl (by decide) rfl (fun ls hl => ?_)
    exact L11 0 S (fun _ => 0)  _ _ _ h4 (Nat.zero_le _) zz_off_rf (fun j hj => absurd hj (Nat.not_lt_zero j)) ex_mem_0 hZ (lv_sub hl [1, 2, 0] rfl)
  · refine lv_iconst (v := nI 0) hx_ hb_ d_Code_execute_7 (by decide) ?_
    exact zz_iret hC hK hZ rfl d_Code_execute_8 ⟨zz_off_rf, Or.inl ⟨h4, rfl⟩⟩
end
