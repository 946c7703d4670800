section
-- ===== PART A: goes FIRST, ahead of the names: the tables' words, and 'selects' of the private methods out of them =====
/-- a private method of a class that the tables say can be made, by its rows of tables_1 -/
def lw_okq (q : MethodName × Nat) : Prop := (q.1.cls ≠ "java/lang/invoke/MethodHandle" ∧ q.1.cls ≠ "java/lang/invoke/VarHandle") ∧ Cond.instantiable q.1.cls q.2 ∈ tables_1 ∧ Cond.privateMethod q.1 ∈ tables_1 ∧ Cond.instanceMethod q.1 ∈ tables_1
theorem lw_p0 : lw_okq (⟨"TreeCoverForge", "forgetConclusions", "()V"⟩, 6) := ⟨⟨by decide +kernel, by decide +kernel⟩, List.mem_of_getElem? (i := 11) (by decide +kernel), List.mem_of_getElem? (i := 235) (by decide +kernel), List.mem_of_getElem? (i := 236) (by decide +kernel)⟩
theorem lw_p1 : lw_okq (⟨"TreeCoverForge$StateTable", "look", "(LTreeCoverForge$RuleBook;ILTreeCoverForge$Label;LTreeCoverForge$Label;)V"⟩, 4) := ⟨⟨by decide +kernel, by decide +kernel⟩, List.mem_of_getElem? (i := 125) (by decide +kernel), List.mem_of_getElem? (i := 262) (by decide +kernel), List.mem_of_getElem? (i := 263) (by decide +kernel)⟩
theorem lw_p2 : lw_okq (⟨"TreeCoverForge$Label", "offer", "(LTreeCoverForge$RuleBook;IJ)Z"⟩, 2) := ⟨⟨by decide +kernel, by decide +kernel⟩, List.mem_of_getElem? (i := 70) (by decide +kernel), List.mem_of_getElem? (i := 279) (by decide +kernel), List.mem_of_getElem? (i := 280) (by decide +kernel)⟩
theorem lw_p3 : lw_okq (⟨"TreeCoverForge$Label", "applyChains", "(LTreeCoverForge$RuleBook;)V"⟩, 2) := ⟨⟨by decide +kernel, by decide +kernel⟩, List.mem_of_getElem? (i := 70) (by decide +kernel), List.mem_of_getElem? (i := 283) (by decide +kernel), List.mem_of_getElem? (i := 284) (by decide +kernel)⟩
theorem lw_p4 : lw_okq (⟨"TreeCoverForge$StateTable", "lookAtPair", "(LTreeCoverForge$RuleBook;II)V"⟩, 4) := ⟨⟨by decide +kernel, by decide +kernel⟩, List.mem_of_getElem? (i := 125) (by decide +kernel), List.mem_of_getElem? (i := 299) (by decide +kernel), List.mem_of_getElem? (i := 300) (by decide +kernel)⟩
theorem lw_p5 : lw_okq (⟨"TreeCoverForge", "isTopNode", "(I)Z"⟩, 6) := ⟨⟨by decide +kernel, by decide +kernel⟩, List.mem_of_getElem? (i := 11) (by decide +kernel), List.mem_of_getElem? (i := 358) (by decide +kernel), List.mem_of_getElem? (i := 359) (by decide +kernel)⟩
theorem lw_p6 : lw_okq (⟨"TreeCoverForge$Code", "chooseKinds", "(LTreeCoverForge$RuleBook;LTreeCoverForge$Pile;)V"⟩, 15) := ⟨⟨by decide +kernel, by decide +kernel⟩, List.mem_of_getElem? (i := 147) (by decide +kernel), List.mem_of_getElem? (i := 393) (by decide +kernel), List.mem_of_getElem? (i := 394) (by decide +kernel)⟩
theorem lw_p7 : lw_okq (⟨"TreeCoverForge$Code", "followChoices", "(LTreeCoverForge$RuleBook;LTreeCoverForge$Pile;I)I"⟩, 15) := ⟨⟨by decide +kernel, by decide +kernel⟩, List.mem_of_getElem? (i := 147) (by decide +kernel), List.mem_of_getElem? (i := 398) (by decide +kernel), List.mem_of_getElem? (i := 399) (by decide +kernel)⟩
theorem lw_p8 : lw_okq (⟨"TreeCoverForge$Code", "writeOperator", "(LTreeCoverForge$Pile;II)V"⟩, 15) := ⟨⟨by decide +kernel, by decide +kernel⟩, List.mem_of_getElem? (i := 147) (by decide +kernel), List.mem_of_getElem? (i := 404) (by decide +kernel), List.mem_of_getElem? (i := 405) (by decide +kernel)⟩
theorem lw_p9 : lw_okq (⟨"TreeCoverForge$Code", "append", "(IIIIII)V"⟩, 15) := ⟨⟨by decide +kernel, by decide +kernel⟩, List.mem_of_getElem? (i := 147) (by decide +kernel), List.mem_of_getElem? (i := 408) (by decide +kernel), List.mem_of_getElem? (i := 409) (by decide +kernel)⟩
theorem lw_p10 : lw_okq (⟨"TreeCoverForge$Code", "releaseUntil", "(II)V"⟩, 15) := ⟨⟨by decide +kernel, by decide +kernel⟩, List.mem_of_getElem? (i := 147) (by decide +kernel), List.mem_of_getElem? (i := 417) (by decide +kernel), List.mem_of_getElem? (i := 418) (by decide +kernel)⟩
theorem lw_p11 : lw_okq (⟨"TreeCoverForge$Code", "leastFree", "(I)I"⟩, 15) := ⟨⟨by decide +kernel, by decide +kernel⟩, List.mem_of_getElem? (i := 147) (by decide +kernel), List.mem_of_getElem? (i := 421) (by decide +kernel), List.mem_of_getElem? (i := 422) (by decide +kernel)⟩
theorem lw_p12 : lw_okq (⟨"TreeCoverForge$Code", "spillFor", "(II)V"⟩, 15) := ⟨⟨by decide +kernel, by decide +kernel⟩, List.mem_of_getElem? (i := 147) (by decide +kernel), List.mem_of_getElem? (i := 425) (by decide +kernel), List.mem_of_getElem? (i := 426) (by decide +kernel)⟩
theorem lw_p13 : lw_okq (⟨"TreeCoverForge$Code", "isNeededLonger", "(II)Z"⟩, 15) := ⟨⟨by decide +kernel, by decide +kernel⟩, List.mem_of_getElem? (i := 147) (by decide +kernel), List.mem_of_getElem? (i := 429) (by decide +kernel), List.mem_of_getElem? (i := 430) (by decide +kernel)⟩
theorem lw_p14 : lw_okq (⟨"TreeCoverForge$Code", "placeOf", "(I)I"⟩, 15) := ⟨⟨by decide +kernel, by decide +kernel⟩, List.mem_of_getElem? (i := 147) (by decide +kernel), List.mem_of_getElem? (i := 441) (by decide +kernel), List.mem_of_getElem? (i := 442) (by decide +kernel)⟩
theorem lw_p15 : lw_okq (⟨"TreeCoverForgeModel", "combine", "(I)V"⟩, 39) := ⟨⟨by decide +kernel, by decide +kernel⟩, List.mem_of_getElem? (i := 473) (by decide +kernel), List.mem_of_getElem? (i := 612) (by decide +kernel), List.mem_of_getElem? (i := 613) (by decide +kernel)⟩
def lw_privs_1 : List (MethodName × Nat) := [(⟨"TreeCoverForge", "forgetConclusions", "()V"⟩, 6), (⟨"TreeCoverForge$StateTable", "look", "(LTreeCoverForge$RuleBook;ILTreeCoverForge$Label;LTreeCoverForge$Label;)V"⟩, 4), (⟨"TreeCoverForge$Label", "offer", "(LTreeCoverForge$RuleBook;IJ)Z"⟩, 2), (⟨"TreeCoverForge$Label", "applyChains", "(LTreeCoverForge$RuleBook;)V"⟩, 2), (⟨"TreeCoverForge$StateTable", "lookAtPair", "(LTreeCoverForge$RuleBook;II)V"⟩, 4), (⟨"TreeCoverForge", "isTopNode", "(I)Z"⟩, 6), (⟨"TreeCoverForge$Code", "chooseKinds", "(LTreeCoverForge$RuleBook;LTreeCoverForge$Pile;)V"⟩, 15), (⟨"TreeCoverForge$Code", "followChoices", "(LTreeCoverForge$RuleBook;LTreeCoverForge$Pile;I)I"⟩, 15), (⟨"TreeCoverForge$Code", "writeOperator", "(LTreeCoverForge$Pile;II)V"⟩, 15), (⟨"TreeCoverForge$Code", "append", "(IIIIII)V"⟩, 15), (⟨"TreeCoverForge$Code", "releaseUntil", "(II)V"⟩, 15), (⟨"TreeCoverForge$Code", "leastFree", "(I)I"⟩, 15), (⟨"TreeCoverForge$Code", "spillFor", "(II)V"⟩, 15), (⟨"TreeCoverForge$Code", "isNeededLonger", "(II)Z"⟩, 15), (⟨"TreeCoverForge$Code", "placeOf", "(I)I"⟩, 15), (⟨"TreeCoverForgeModel", "combine", "(I)V"⟩, 39)]
theorem lw_r1 : ∀ q ∈ lw_privs_1, lw_okq q := List.forall_mem_cons.mpr ⟨lw_p0, List.forall_mem_cons.mpr ⟨lw_p1, List.forall_mem_cons.mpr ⟨lw_p2, List.forall_mem_cons.mpr ⟨lw_p3, List.forall_mem_cons.mpr ⟨lw_p4, List.forall_mem_cons.mpr ⟨lw_p5, List.forall_mem_cons.mpr ⟨lw_p6, List.forall_mem_cons.mpr ⟨lw_p7, List.forall_mem_cons.mpr ⟨lw_p8, List.forall_mem_cons.mpr ⟨lw_p9, List.forall_mem_cons.mpr ⟨lw_p10, List.forall_mem_cons.mpr ⟨lw_p11, List.forall_mem_cons.mpr ⟨lw_p12, List.forall_mem_cons.mpr ⟨lw_p13, List.forall_mem_cons.mpr ⟨lw_p14, List.forall_mem_cons.mpr ⟨lw_p15, fun _ h => absurd h List.not_mem_nil⟩⟩⟩⟩⟩⟩⟩⟩⟩⟩⟩⟩⟩⟩⟩⟩
theorem lw_p16 : lw_okq (⟨"TreeCoverForgeModel", "through", "(II)J"⟩, 39) := ⟨⟨by decide +kernel, by decide +kernel⟩, List.mem_of_getElem? (i := 473) (by decide +kernel), List.mem_of_getElem? (i := 617) (by decide +kernel), List.mem_of_getElem? (i := 618) (by decide +kernel)⟩
theorem lw_p17 : lw_okq (⟨"TreeCoverForgeModel", "known", "()Z"⟩, 39) := ⟨⟨by decide +kernel, by decide +kernel⟩, List.mem_of_getElem? (i := 473) (by decide +kernel), List.mem_of_getElem? (i := 624) (by decide +kernel), List.mem_of_getElem? (i := 625) (by decide +kernel)⟩
theorem lw_p18 : lw_okq (⟨"TreeCoverForgeModel", "lowest", "()J"⟩, 39) := ⟨⟨by decide +kernel, by decide +kernel⟩, List.mem_of_getElem? (i := 473) (by decide +kernel), List.mem_of_getElem? (i := 628) (by decide +kernel), List.mem_of_getElem? (i := 629) (by decide +kernel)⟩
theorem lw_p19 : lw_okq (⟨"TreeCoverForgeModel", "reach", "(III)Z"⟩, 39) := ⟨⟨by decide +kernel, by decide +kernel⟩, List.mem_of_getElem? (i := 473) (by decide +kernel), List.mem_of_getElem? (i := 632) (by decide +kernel), List.mem_of_getElem? (i := 633) (by decide +kernel)⟩
theorem lw_p20 : lw_okq (⟨"TreeCoverForgeModel", "noNode", "(II)Z"⟩, 39) := ⟨⟨by decide +kernel, by decide +kernel⟩, List.mem_of_getElem? (i := 473) (by decide +kernel), List.mem_of_getElem? (i := 656) (by decide +kernel), List.mem_of_getElem? (i := 657) (by decide +kernel)⟩
theorem lw_p21 : lw_okq (⟨"TreeCoverForgeModel", "work", "()Z"⟩, 39) := ⟨⟨by decide +kernel, by decide +kernel⟩, List.mem_of_getElem? (i := 473) (by decide +kernel), List.mem_of_getElem? (i := 661) (by decide +kernel), List.mem_of_getElem? (i := 662) (by decide +kernel)⟩
theorem lw_p22 : lw_okq (⟨"TreeCoverForgeModel", "takeKids", "(I)V"⟩, 39) := ⟨⟨by decide +kernel, by decide +kernel⟩, List.mem_of_getElem? (i := 473) (by decide +kernel), List.mem_of_getElem? (i := 665) (by decide +kernel), List.mem_of_getElem? (i := 666) (by decide +kernel)⟩
theorem lw_p23 : lw_okq (⟨"TreeCoverForgeModel", "want", "(I)V"⟩, 39) := ⟨⟨by decide +kernel, by decide +kernel⟩, List.mem_of_getElem? (i := 473) (by decide +kernel), List.mem_of_getElem? (i := 685) (by decide +kernel), List.mem_of_getElem? (i := 686) (by decide +kernel)⟩
theorem lw_p24 : lw_okq (⟨"TreeCoverForgeModel", "emit", "(II)V"⟩, 39) := ⟨⟨by decide +kernel, by decide +kernel⟩, List.mem_of_getElem? (i := 473) (by decide +kernel), List.mem_of_getElem? (i := 689) (by decide +kernel), List.mem_of_getElem? (i := 690) (by decide +kernel)⟩
theorem lw_p25 : lw_okq (⟨"TreeCoverForgeModel", "write", "(IIIII)V"⟩, 39) := ⟨⟨by decide +kernel, by decide +kernel⟩, List.mem_of_getElem? (i := 473) (by decide +kernel), List.mem_of_getElem? (i := 693) (by decide +kernel), List.mem_of_getElem? (i := 694) (by decide +kernel)⟩
theorem lw_p26 : lw_okq (⟨"TreeCoverForgeModel", "settle", "(I)V"⟩, 39) := ⟨⟨by decide +kernel, by decide +kernel⟩, List.mem_of_getElem? (i := 473) (by decide +kernel), List.mem_of_getElem? (i := 697) (by decide +kernel), List.mem_of_getElem? (i := 698) (by decide +kernel)⟩
theorem lw_p27 : lw_okq (⟨"TreeCoverForgeModel", "holds", "(II)Z"⟩, 39) := ⟨⟨by decide +kernel, by decide +kernel⟩, List.mem_of_getElem? (i := 473) (by decide +kernel), List.mem_of_getElem? (i := 701) (by decide +kernel), List.mem_of_getElem? (i := 702) (by decide +kernel)⟩
theorem lw_p28 : lw_okq (⟨"TreeCoverForgeModel", "calculate", "(IIII)I"⟩, 39) := ⟨⟨by decide +kernel, by decide +kernel⟩, List.mem_of_getElem? (i := 473) (by decide +kernel), List.mem_of_getElem? (i := 721) (by decide +kernel), List.mem_of_getElem? (i := 722) (by decide +kernel)⟩
def lw_privs_2 : List (MethodName × Nat) := [(⟨"TreeCoverForgeModel", "through", "(II)J"⟩, 39), (⟨"TreeCoverForgeModel", "known", "()Z"⟩, 39), (⟨"TreeCoverForgeModel", "lowest", "()J"⟩, 39), (⟨"TreeCoverForgeModel", "reach", "(III)Z"⟩, 39), (⟨"TreeCoverForgeModel", "noNode", "(II)Z"⟩, 39), (⟨"TreeCoverForgeModel", "work", "()Z"⟩, 39), (⟨"TreeCoverForgeModel", "takeKids", "(I)V"⟩, 39), (⟨"TreeCoverForgeModel", "want", "(I)V"⟩, 39), (⟨"TreeCoverForgeModel", "emit", "(II)V"⟩, 39), (⟨"TreeCoverForgeModel", "write", "(IIIII)V"⟩, 39), (⟨"TreeCoverForgeModel", "settle", "(I)V"⟩, 39), (⟨"TreeCoverForgeModel", "holds", "(II)Z"⟩, 39), (⟨"TreeCoverForgeModel", "calculate", "(IIII)I"⟩, 39)]
theorem lw_r2 : ∀ q ∈ lw_privs_2, lw_okq q := List.forall_mem_cons.mpr ⟨lw_p16, List.forall_mem_cons.mpr ⟨lw_p17, List.forall_mem_cons.mpr ⟨lw_p18, List.forall_mem_cons.mpr ⟨lw_p19, List.forall_mem_cons.mpr ⟨lw_p20, List.forall_mem_cons.mpr ⟨lw_p21, List.forall_mem_cons.mpr ⟨lw_p22, List.forall_mem_cons.mpr ⟨lw_p23, List.forall_mem_cons.mpr ⟨lw_p24, List.forall_mem_cons.mpr ⟨lw_p25, List.forall_mem_cons.mpr ⟨lw_p26, List.forall_mem_cons.mpr ⟨lw_p27, List.forall_mem_cons.mpr ⟨lw_p28, fun _ h => absurd h List.not_mem_nil⟩⟩⟩⟩⟩⟩⟩⟩⟩⟩⟩⟩⟩
def lw_privs : List (MethodName × Nat) := lw_privs_1 ++ (lw_privs_2)
def lw_tbl : List Cond := k2_sels lw_privs ++ tables_1
theorem lw_privs_ok : ∀ q ∈ lw_privs, lw_okq q := by
  show ∀ q ∈ lw_privs_1 ++ (lw_privs_2), lw_okq q
  exact List.forall_mem_append.mpr ⟨lw_r1, lw_r2⟩
end
section
/-! Names: classes, fields, methods, and the words of the tables by their places. Laid by wip/whole/prog/names.py out of the Statement and the listing. -/
/-- the words that every call keeps; those of nest mates are carried beside them -/
def zz_tbl : List Cond := lw_tbl.filter goodWord
theorem zz_in {w : Cond} {i : Nat} (h : lw_tbl[i]? = some w) (hg : goodWord w = true) : w ∈ zz_tbl := List.mem_filter.mpr ⟨List.mem_of_getElem? h, hg⟩
def zz_isN : Cond → Bool
  | .methodLinkNest .. => true
  | .fieldLinkNest .. => true
  | _ => false
def R_Forge : String := "TreeCoverForge"
def F_Forge : u_T := fun k => match k with
  | 0 => ("TreeCoverForge", "book", "LTreeCoverForge$RuleBook;", true)
  | 1 => ("TreeCoverForge", "pile", "LTreeCoverForge$Pile;", true)
  | 2 => ("TreeCoverForge", "table", "LTreeCoverForge$StateTable;", true)
  | 3 => ("TreeCoverForge", "code", "LTreeCoverForge$Code;", true)
  | 4 => ("TreeCoverForge", "variables", "[I", true)
  | _ => ("TreeCoverForge", "registerCount", "I", false)
def t_Forge : Nat → FieldType := fun k => match k with
  | 0 => .object "TreeCoverForge$RuleBook"
  | 1 => .object "TreeCoverForge$Pile"
  | 2 => .object "TreeCoverForge$StateTable"
  | 3 => .object "TreeCoverForge$Code"
  | 4 => .array .int
  | _ => .int
theorem n_Forge : ∀ a, a < 6 → ∀ b, b < 6 → a ≠ b → (F_Forge a).2.1 ≠ (F_Forge b).2.1 := by decide +kernel
theorem t_Forge_ok : ∀ k, k < 6 → parseFieldDescriptor (F_Forge k).2.2.1 = some (t_Forge k) := by decide +kernel
set_option maxRecDepth 100000 in
theorem hin_Forge : ∀ w ∈ u_ws R_Forge F_Forge 6, w ∈ zz_tbl := by decide +kernel
def R_Book : String := "TreeCoverForge$RuleBook"
def F_Book : u_T := fun k => match k with
  | 0 => ("TreeCoverForge$RuleBook", "kinds", "[I", true)
  | 1 => ("TreeCoverForge$RuleBook", "ops", "[I", true)
  | 2 => ("TreeCoverForge$RuleBook", "firsts", "[I", true)
  | 3 => ("TreeCoverForge$RuleBook", "seconds", "[I", true)
  | 4 => ("TreeCoverForge$RuleBook", "costs", "[I", true)
  | 5 => ("TreeCoverForge$RuleBook", "numbersOf", "[[I", true)
  | 6 => ("TreeCoverForge$RuleBook", "sizeOf", "[I", true)
  | _ => ("TreeCoverForge$RuleBook", "count", "I", false)
def t_Book : Nat → FieldType := fun k => match k with
  | 0 => .array .int
  | 1 => .array .int
  | 2 => .array .int
  | 3 => .array .int
  | 4 => .array .int
  | 5 => .array (.array .int)
  | 6 => .array .int
  | _ => .int
theorem n_Book : ∀ a, a < 8 → ∀ b, b < 8 → a ≠ b → (F_Book a).2.1 ≠ (F_Book b).2.1 := by decide +kernel
theorem t_Book_ok : ∀ k, k < 8 → parseFieldDescriptor (F_Book k).2.2.1 = some (t_Book k) := by decide +kernel
set_option maxRecDepth 100000 in
theorem hin_Book : ∀ w ∈ u_ws R_Book F_Book 8, w ∈ zz_tbl := by decide +kernel
def R_Label : String := "TreeCoverForge$Label"
def F_Label : u_T := fun k => match k with
  | 0 => ("TreeCoverForge$Label", "costs", "[J", true)
  | _ => ("TreeCoverForge$Label", "choices", "[I", true)
def t_Label : Nat → FieldType := fun k => match k with
  | 0 => .array .long
  | _ => .array .int
theorem n_Label : ∀ a, a < 2 → ∀ b, b < 2 → a ≠ b → (F_Label a).2.1 ≠ (F_Label b).2.1 := by decide +kernel
theorem t_Label_ok : ∀ k, k < 2 → parseFieldDescriptor (F_Label k).2.2.1 = some (t_Label k) := by decide +kernel
set_option maxRecDepth 100000 in
theorem hin_Label : ∀ w ∈ u_ws R_Label F_Label 2, w ∈ zz_tbl := by decide +kernel
def R_Table : String := "TreeCoverForge$StateTable"
def F_Table : u_T := fun k => match k with
  | 0 => ("TreeCoverForge$StateTable", "found", "[LTreeCoverForge$Label;", true)
  | 1 => ("TreeCoverForge$StateTable", "noKid", "LTreeCoverForge$Label;", true)
  | 2 => ("TreeCoverForge$StateTable", "foundCount", "I", false)
  | _ => ("TreeCoverForge$StateTable", "counted", "I", false)
def t_Table : Nat → FieldType := fun k => match k with
  | 0 => .array (.object "TreeCoverForge$Label")
  | 1 => .object "TreeCoverForge$Label"
  | 2 => .int
  | _ => .int
theorem n_Table : ∀ a, a < 4 → ∀ b, b < 4 → a ≠ b → (F_Table a).2.1 ≠ (F_Table b).2.1 := by decide +kernel
theorem t_Table_ok : ∀ k, k < 4 → parseFieldDescriptor (F_Table k).2.2.1 = some (t_Table k) := by decide +kernel
set_option maxRecDepth 100000 in
theorem hin_Table : ∀ w ∈ u_ws R_Table F_Table 4, w ∈ zz_tbl := by decide +kernel
def R_Pile : String := "TreeCoverForge$Pile"
def F_Pile : u_T := fun k => match k with
  | 0 => ("TreeCoverForge$Pile", "ops", "[I", true)
  | 1 => ("TreeCoverForge$Pile", "numbers", "[I", true)
  | 2 => ("TreeCoverForge$Pile", "sizes", "[I", true)
  | 3 => ("TreeCoverForge$Pile", "heights", "[I", true)
  | 4 => ("TreeCoverForge$Pile", "results", "[I", true)
  | 5 => ("TreeCoverForge$Pile", "labels", "[LTreeCoverForge$Label;", true)
  | 6 => ("TreeCoverForge$Pile", "noKid", "LTreeCoverForge$Label;", true)
  | 7 => ("TreeCoverForge$Pile", "nodeCount", "I", false)
  | 8 => ("TreeCoverForge$Pile", "treeCount", "I", false)
  | _ => ("TreeCoverForge$Pile", "labelledCount", "I", false)
def t_Pile : Nat → FieldType := fun k => match k with
  | 0 => .array .int
  | 1 => .array .int
  | 2 => .array .int
  | 3 => .array .int
  | 4 => .array .int
  | 5 => .array (.object "TreeCoverForge$Label")
  | 6 => .object "TreeCoverForge$Label"
  | 7 => .int
  | 8 => .int
  | _ => .int
theorem n_Pile : ∀ a, a < 10 → ∀ b, b < 10 → a ≠ b → (F_Pile a).2.1 ≠ (F_Pile b).2.1 := by decide +kernel
theorem t_Pile_ok : ∀ k, k < 10 → parseFieldDescriptor (F_Pile k).2.2.1 = some (t_Pile k) := by decide +kernel
set_option maxRecDepth 100000 in
theorem hin_Pile : ∀ w ∈ u_ws R_Pile F_Pile 10, w ∈ zz_tbl := by decide +kernel
def R_Code : String := "TreeCoverForge$Code"
def F_Code : u_T := fun k => match k with
  | 0 => ("TreeCoverForge$Code", "rules", "[I", true)
  | 1 => ("TreeCoverForge$Code", "nodes", "[I", true)
  | 2 => ("TreeCoverForge$Code", "ops", "[I", true)
  | 3 => ("TreeCoverForge$Code", "numbers", "[I", true)
  | 4 => ("TreeCoverForge$Code", "firsts", "[I", true)
  | 5 => ("TreeCoverForge$Code", "seconds", "[I", true)
  | 6 => ("TreeCoverForge$Code", "lastUses", "[I", true)
  | 7 => ("TreeCoverForge$Code", "places", "[I", true)
  | 8 => ("TreeCoverForge$Code", "memory", "[I", true)
  | 9 => ("TreeCoverForge$Code", "holders", "[I", true)
  | 10 => ("TreeCoverForge$Code", "kinds", "[I", true)
  | 11 => ("TreeCoverForge$Code", "latest", "[I", true)
  | 12 => ("TreeCoverForge$Code", "path", "[I", true)
  | 13 => ("TreeCoverForge$Code", "count", "I", false)
  | _ => ("TreeCoverForge$Code", "slotCount", "I", false)
def t_Code : Nat → FieldType := fun k => match k with
  | 0 => .array .int
  | 1 => .array .int
  | 2 => .array .int
  | 3 => .array .int
  | 4 => .array .int
  | 5 => .array .int
  | 6 => .array .int
  | 7 => .array .int
  | 8 => .array .int
  | 9 => .array .int
  | 10 => .array .int
  | 11 => .array .int
  | 12 => .array .int
  | 13 => .int
  | _ => .int
theorem n_Code : ∀ a, a < 15 → ∀ b, b < 15 → a ≠ b → (F_Code a).2.1 ≠ (F_Code b).2.1 := by decide +kernel
theorem t_Code_ok : ∀ k, k < 15 → parseFieldDescriptor (F_Code k).2.2.1 = some (t_Code k) := by decide +kernel
set_option maxRecDepth 100000 in
theorem hin_Code : ∀ w ∈ u_ws R_Code F_Code 15, w ∈ zz_tbl := by decide +kernel
def R_Model : String := "TreeCoverForgeModel"
def F_Model : u_T := fun k => match k with
  | 0 => ("TreeCoverForgeModel", "rules", "I", false)
  | 1 => ("TreeCoverForgeModel", "makes", "[I", true)
  | 2 => ("TreeCoverForgeModel", "operator", "[I", true)
  | 3 => ("TreeCoverForgeModel", "first", "[I", true)
  | 4 => ("TreeCoverForgeModel", "second", "[I", true)
  | 5 => ("TreeCoverForgeModel", "price", "[I", true)
  | 6 => ("TreeCoverForgeModel", "total", "I", false)
  | 7 => ("TreeCoverForgeModel", "op", "[I", true)
  | 8 => ("TreeCoverForgeModel", "number", "[I", true)
  | 9 => ("TreeCoverForgeModel", "size", "[I", true)
  | 10 => ("TreeCoverForgeModel", "height", "[I", true)
  | 11 => ("TreeCoverForgeModel", "many", "I", false)
  | 12 => ("TreeCoverForgeModel", "start", "[I", true)
  | 13 => ("TreeCoverForgeModel", "least", "[J", true)
  | 14 => ("TreeCoverForgeModel", "chosen", "[I", true)
  | 15 => ("TreeCoverForgeModel", "left", "[J", true)
  | 16 => ("TreeCoverForgeModel", "right", "[J", true)
  | 17 => ("TreeCoverForgeModel", "got", "[J", true)
  | 18 => ("TreeCoverForgeModel", "pick", "[I", true)
  | 19 => ("TreeCoverForgeModel", "stateCount", "I", false)
  | 20 => ("TreeCoverForgeModel", "stateCost", "[J", true)
  | 21 => ("TreeCoverForgeModel", "statePick", "[I", true)
  | 22 => ("TreeCoverForgeModel", "length", "I", false)
  | 23 => ("TreeCoverForgeModel", "slotCount", "I", false)
  | 24 => ("TreeCoverForgeModel", "registers", "I", false)
  | 25 => ("TreeCoverForgeModel", "codeRule", "[I", true)
  | 26 => ("TreeCoverForgeModel", "codeNode", "[I", true)
  | 27 => ("TreeCoverForgeModel", "codeOp", "[I", true)
  | 28 => ("TreeCoverForgeModel", "codeNumber", "[I", true)
  | 29 => ("TreeCoverForgeModel", "sourceA", "[I", true)
  | 30 => ("TreeCoverForgeModel", "sourceB", "[I", true)
  | 31 => ("TreeCoverForgeModel", "until", "[I", true)
  | 32 => ("TreeCoverForgeModel", "place", "[I", true)
  | 33 => ("TreeCoverForgeModel", "result", "[I", true)
  | 34 => ("TreeCoverForgeModel", "wanted", "[I", true)
  | 35 => ("TreeCoverForgeModel", "latest", "[I", true)
  | 36 => ("TreeCoverForgeModel", "chain", "[I", true)
  | 37 => ("TreeCoverForgeModel", "variables", "[I", true)
  | _ => ("TreeCoverForgeModel", "values", "[I", true)
def t_Model : Nat → FieldType := fun k => match k with
  | 0 => .int
  | 1 => .array .int
  | 2 => .array .int
  | 3 => .array .int
  | 4 => .array .int
  | 5 => .array .int
  | 6 => .int
  | 7 => .array .int
  | 8 => .array .int
  | 9 => .array .int
  | 10 => .array .int
  | 11 => .int
  | 12 => .array .int
  | 13 => .array .long
  | 14 => .array .int
  | 15 => .array .long
  | 16 => .array .long
  | 17 => .array .long
  | 18 => .array .int
  | 19 => .int
  | 20 => .array .long
  | 21 => .array .int
  | 22 => .int
  | 23 => .int
  | 24 => .int
  | 25 => .array .int
  | 26 => .array .int
  | 27 => .array .int
  | 28 => .array .int
  | 29 => .array .int
  | 30 => .array .int
  | 31 => .array .int
  | 32 => .array .int
  | 33 => .array .int
  | 34 => .array .int
  | 35 => .array .int
  | 36 => .array .int
  | 37 => .array .int
  | _ => .array .int
theorem n_Model : ∀ a, a < 39 → ∀ b, b < 39 → a ≠ b → (F_Model a).2.1 ≠ (F_Model b).2.1 := by decide +kernel
theorem t_Model_ok : ∀ k, k < 39 → parseFieldDescriptor (F_Model k).2.2.1 = some (t_Model k) := by decide +kernel
set_option maxRecDepth 100000 in
theorem hin_Model : ∀ w ∈ u_ws R_Model F_Model 39, w ∈ zz_tbl := by decide +kernel
abbrev b_Forge_init : ByteArray := prog_1_method_1_code
def y_Forge_init : MethodName := ⟨"TreeCoverForge", "<init>", "()V"⟩
abbrev rm_Forge_init : Room := { frames := 3, cells := 0, slots := 0, locals := 61 }
abbrev b_Object_init : ByteArray := object_method_1_code
def y_Object_init : MethodName := ⟨"java/lang/Object", "<init>", "()V"⟩
abbrev rm_Object_init : Room := { frames := 0, cells := 0, slots := 0, locals := 0 }
abbrev b_Book_init : ByteArray := prog_5_method_1_code
def y_Book_init : MethodName := ⟨"TreeCoverForge$RuleBook", "<init>", "()V"⟩
abbrev rm_Book_init : Room := { frames := 1, cells := 0, slots := 0, locals := 20 }
abbrev b_Pile_init : ByteArray := prog_4_method_1_code
def y_Pile_init : MethodName := ⟨"TreeCoverForge$Pile", "<init>", "()V"⟩
abbrev rm_Pile_init : Room := { frames := 2, cells := 0, slots := 0, locals := 40 }
abbrev b_Label_init : ByteArray := prog_3_method_1_code
def y_Label_init : MethodName := ⟨"TreeCoverForge$Label", "<init>", "()V"⟩
abbrev rm_Label_init : Room := { frames := 1, cells := 0, slots := 0, locals := 20 }
abbrev b_Table_init : ByteArray := prog_6_method_1_code
def y_Table_init : MethodName := ⟨"TreeCoverForge$StateTable", "<init>", "()V"⟩
abbrev rm_Table_init : Room := { frames := 2, cells := 0, slots := 0, locals := 40 }
abbrev b_Code_init : ByteArray := prog_2_method_1_code
def y_Code_init : MethodName := ⟨"TreeCoverForge$Code", "<init>", "()V"⟩
abbrev rm_Code_init : Room := { frames := 1, cells := 0, slots := 0, locals := 20 }
abbrev b_Forge_rule : ByteArray := prog_1_method_2_code
def y_Forge_rule : MethodName := ⟨"TreeCoverForge", "rule", "(IIIII)I"⟩
abbrev rm_Forge_rule : Room := { frames := 1, cells := 0, slots := 0, locals := 26 }
abbrev b_Forge_isKind : ByteArray := prog_1_method_21_code
def y_Forge_isKind : MethodName := ⟨"TreeCoverForge", "isKind", "(I)Z"⟩
abbrev rm_Forge_isKind : Room := { frames := 0, cells := 0, slots := 0, locals := 0 }
abbrev b_Forge_fitsOperator : ByteArray := prog_1_method_24_code
def y_Forge_fitsOperator : MethodName := ⟨"TreeCoverForge", "fitsOperator", "(IIII)Z"⟩
abbrev rm_Forge_fitsOperator : Room := { frames := 0, cells := 0, slots := 0, locals := 0 }
abbrev b_Forge_isCostFor : ByteArray := prog_1_method_25_code
def y_Forge_isCostFor : MethodName := ⟨"TreeCoverForge", "isCostFor", "(II)Z"⟩
abbrev rm_Forge_isCostFor : Room := { frames := 0, cells := 0, slots := 0, locals := 0 }
abbrev b_Forge_forgetConclusions : ByteArray := prog_1_method_19_code
def y_Forge_forgetConclusions : MethodName := ⟨"TreeCoverForge", "forgetConclusions", "()V"⟩
abbrev rm_Forge_forgetConclusions : Room := { frames := 0, cells := 0, slots := 0, locals := 0 }
abbrev b_Book_add : ByteArray := prog_5_method_2_code
def y_Book_add : MethodName := ⟨"TreeCoverForge$RuleBook", "add", "(IIIII)I"⟩
abbrev rm_Book_add : Room := { frames := 0, cells := 0, slots := 0, locals := 0 }
abbrev b_Forge_clear : ByteArray := prog_1_method_3_code
def y_Forge_clear : MethodName := ⟨"TreeCoverForge", "clear", "()V"⟩
abbrev rm_Forge_clear : Room := { frames := 2, cells := 0, slots := 0, locals := 43 }
abbrev b_Book_removeAll : ByteArray := prog_5_method_3_code
def y_Book_removeAll : MethodName := ⟨"TreeCoverForge$RuleBook", "removeAll", "()V"⟩
abbrev rm_Book_removeAll : Room := { frames := 1, cells := 0, slots := 0, locals := 23 }
abbrev b_Arrays_fillI : ByteArray := prog_10_method_103_code
def y_Arrays_fillI : MethodName := ⟨"java/util/Arrays", "fill", "([II)V"⟩
abbrev rm_Arrays_fillI : Room := { frames := 0, cells := 0, slots := 0, locals := 0 }
abbrev b_Forge_states : ByteArray := prog_1_method_4_code
def y_Forge_states : MethodName := ⟨"TreeCoverForge", "states", "()I"⟩
abbrev rm_Forge_states : Room := { frames := 6, cells := 0, slots := 0, locals := 157 }
abbrev b_Table_findAll : ByteArray := prog_6_method_2_code
def y_Table_findAll : MethodName := ⟨"TreeCoverForge$StateTable", "findAll", "(LTreeCoverForge$RuleBook;)V"⟩
abbrev rm_Table_findAll : Room := { frames := 5, cells := 0, slots := 0, locals := 134 }
abbrev b_Table_look : ByteArray := prog_6_method_4_code
def y_Table_look : MethodName := ⟨"TreeCoverForge$StateTable", "look", "(LTreeCoverForge$RuleBook;ILTreeCoverForge$Label;LTreeCoverForge$Label;)V"⟩
abbrev rm_Table_look : Room := { frames := 3, cells := 0, slots := 0, locals := 84 }
abbrev b_Label_derive : ByteArray := prog_3_method_3_code
def y_Label_derive : MethodName := ⟨"TreeCoverForge$Label", "derive", "(LTreeCoverForge$RuleBook;ILTreeCoverForge$Label;LTreeCoverForge$Label;)V"⟩
abbrev rm_Label_derive : Room := { frames := 2, cells := 0, slots := 0, locals := 55 }
abbrev b_Arrays_fillJ : ByteArray := prog_10_method_101_code
def y_Arrays_fillJ : MethodName := ⟨"java/util/Arrays", "fill", "([JJ)V"⟩
abbrev rm_Arrays_fillJ : Room := { frames := 0, cells := 0, slots := 0, locals := 0 }
abbrev b_Label_isCovered : ByteArray := prog_3_method_2_code
def y_Label_isCovered : MethodName := ⟨"TreeCoverForge$Label", "isCovered", "(I)Z"⟩
abbrev rm_Label_isCovered : Room := { frames := 0, cells := 0, slots := 0, locals := 0 }
abbrev b_Label_offer : ByteArray := prog_3_method_5_code
def y_Label_offer : MethodName := ⟨"TreeCoverForge$Label", "offer", "(LTreeCoverForge$RuleBook;IJ)Z"⟩
abbrev rm_Label_offer : Room := { frames := 0, cells := 0, slots := 0, locals := 0 }
abbrev b_Label_applyChains : ByteArray := prog_3_method_4_code
def y_Label_applyChains : MethodName := ⟨"TreeCoverForge$Label", "applyChains", "(LTreeCoverForge$RuleBook;)V"⟩
abbrev rm_Label_applyChains : Room := { frames := 1, cells := 0, slots := 0, locals := 28 }
abbrev b_Label_makeRelative : ByteArray := prog_3_method_7_code
def y_Label_makeRelative : MethodName := ⟨"TreeCoverForge$Label", "makeRelative", "()V"⟩
abbrev rm_Label_makeRelative : Room := { frames := 2, cells := 0, slots := 0, locals := 44 }
abbrev b_Label_leastCost : ByteArray := prog_3_method_6_code
def y_Label_leastCost : MethodName := ⟨"TreeCoverForge$Label", "leastCost", "()J"⟩
abbrev rm_Label_leastCost : Room := { frames := 1, cells := 0, slots := 0, locals := 21 }
abbrev b_Label_agreesWith : ByteArray := prog_3_method_8_code
def y_Label_agreesWith : MethodName := ⟨"TreeCoverForge$Label", "agreesWith", "(LTreeCoverForge$Label;)Z"⟩
abbrev rm_Label_agreesWith : Room := { frames := 0, cells := 0, slots := 0, locals := 0 }
abbrev b_Table_lookAtPair : ByteArray := prog_6_method_3_code
def y_Table_lookAtPair : MethodName := ⟨"TreeCoverForge$StateTable", "lookAtPair", "(LTreeCoverForge$RuleBook;II)V"⟩
abbrev rm_Table_lookAtPair : Room := { frames := 4, cells := 0, slots := 0, locals := 110 }
abbrev b_Forge_push : ByteArray := prog_1_method_5_code
def y_Forge_push : MethodName := ⟨"TreeCoverForge", "push", "(II)I"⟩
abbrev rm_Forge_push : Room := { frames := 3, cells := 0, slots := 0, locals := 67 }
abbrev b_Forge_isNumberFor : ByteArray := prog_1_method_23_code
def y_Forge_isNumberFor : MethodName := ⟨"TreeCoverForge", "isNumberFor", "(II)Z"⟩
abbrev rm_Forge_isNumberFor : Room := { frames := 1, cells := 0, slots := 0, locals := 20 }
abbrev b_Forge_isVariable : ByteArray := prog_1_method_22_code
def y_Forge_isVariable : MethodName := ⟨"TreeCoverForge", "isVariable", "(I)Z"⟩
abbrev rm_Forge_isVariable : Room := { frames := 0, cells := 0, slots := 0, locals := 0 }
abbrev b_Pile_heightOfNew : ByteArray := prog_4_method_5_code
def y_Pile_heightOfNew : MethodName := ⟨"TreeCoverForge$Pile", "heightOfNew", "(I)I"⟩
abbrev rm_Pile_heightOfNew : Room := { frames := 1, cells := 0, slots := 0, locals := 22 }
abbrev b_Pile_firstKid : ByteArray := prog_4_method_4_code
def y_Pile_firstKid : MethodName := ⟨"TreeCoverForge$Pile", "firstKid", "(II)I"⟩
abbrev rm_Pile_firstKid : Room := { frames := 0, cells := 0, slots := 0, locals := 0 }
abbrev b_Math_max : ByteArray := prog_9_method_65_code
def y_Math_max : MethodName := ⟨"java/lang/Math", "max", "(II)I"⟩
abbrev rm_Math_max : Room := { frames := 0, cells := 0, slots := 0, locals := 0 }
abbrev b_Pile_add : ByteArray := prog_4_method_6_code
def y_Pile_add : MethodName := ⟨"TreeCoverForge$Pile", "add", "(II)V"⟩
abbrev rm_Pile_add : Room := { frames := 2, cells := 0, slots := 0, locals := 43 }
abbrev b_Forge_pop : ByteArray := prog_1_method_6_code
def y_Forge_pop : MethodName := ⟨"TreeCoverForge", "pop", "()Z"⟩
abbrev rm_Forge_pop : Room := { frames := 2, cells := 0, slots := 0, locals := 41 }
abbrev b_Pile_removeTop : ByteArray := prog_4_method_7_code
def y_Pile_removeTop : MethodName := ⟨"TreeCoverForge$Pile", "removeTop", "()V"⟩
abbrev rm_Pile_removeTop : Room := { frames := 1, cells := 0, slots := 0, locals := 21 }
abbrev b_Pile_topSize : ByteArray := prog_4_method_2_code
def y_Pile_topSize : MethodName := ⟨"TreeCoverForge$Pile", "topSize", "()I"⟩
abbrev rm_Pile_topSize : Room := { frames := 0, cells := 0, slots := 0, locals := 0 }
abbrev b_Math_min : ByteArray := prog_9_method_69_code
def y_Math_min : MethodName := ⟨"java/lang/Math", "min", "(II)I"⟩
abbrev rm_Math_min : Room := { frames := 0, cells := 0, slots := 0, locals := 0 }
abbrev b_Forge_trees : ByteArray := prog_1_method_7_code
def y_Forge_trees : MethodName := ⟨"TreeCoverForge", "trees", "()I"⟩
abbrev rm_Forge_trees : Room := { frames := 0, cells := 0, slots := 0, locals := 0 }
abbrev b_Forge_nodes : ByteArray := prog_1_method_8_code
def y_Forge_nodes : MethodName := ⟨"TreeCoverForge", "nodes", "()I"⟩
abbrev rm_Forge_nodes : Room := { frames := 1, cells := 0, slots := 0, locals := 20 }
abbrev b_Forge_relative : ByteArray := prog_1_method_9_code
def y_Forge_relative : MethodName := ⟨"TreeCoverForge", "relative", "(II)I"⟩
abbrev rm_Forge_relative : Room := { frames := 4, cells := 0, slots := 0, locals := 110 }
abbrev b_Forge_isTopNode : ByteArray := prog_1_method_20_code
def y_Forge_isTopNode : MethodName := ⟨"TreeCoverForge", "isTopNode", "(I)Z"⟩
abbrev rm_Forge_isTopNode : Room := { frames := 1, cells := 0, slots := 0, locals := 20 }
abbrev b_Pile_labelOf : ByteArray := prog_4_method_8_code
def y_Pile_labelOf : MethodName := ⟨"TreeCoverForge$Pile", "labelOf", "(LTreeCoverForge$RuleBook;I)LTreeCoverForge$Label;"⟩
abbrev rm_Pile_labelOf : Room := { frames := 3, cells := 0, slots := 0, locals := 84 }
abbrev b_Pile_topStart : ByteArray := prog_4_method_3_code
def y_Pile_topStart : MethodName := ⟨"TreeCoverForge$Pile", "topStart", "()I"⟩
abbrev rm_Pile_topStart : Room := { frames := 1, cells := 0, slots := 0, locals := 20 }
abbrev b_Forge_choice : ByteArray := prog_1_method_10_code
def y_Forge_choice : MethodName := ⟨"TreeCoverForge", "choice", "(II)I"⟩
abbrev rm_Forge_choice : Room := { frames := 4, cells := 0, slots := 0, locals := 110 }
abbrev b_Forge_cost : ByteArray := prog_1_method_11_code
def y_Forge_cost : MethodName := ⟨"TreeCoverForge", "cost", "(I)I"⟩
abbrev rm_Forge_cost : Room := { frames := 4, cells := 0, slots := 0, locals := 110 }
abbrev b_Forge_registers : ByteArray := prog_1_method_12_code
def y_Forge_registers : MethodName := ⟨"TreeCoverForge", "registers", "(I)Z"⟩
abbrev rm_Forge_registers : Room := { frames := 0, cells := 0, slots := 0, locals := 0 }
abbrev b_Forge_cover : ByteArray := prog_1_method_13_code
def y_Forge_cover : MethodName := ⟨"TreeCoverForge", "cover", "()I"⟩
abbrev rm_Forge_cover : Room := { frames := 4, cells := 0, slots := 0, locals := 110 }
abbrev b_Code_write : ByteArray := prog_2_method_2_code
def y_Code_write : MethodName := ⟨"TreeCoverForge$Code", "write", "(LTreeCoverForge$RuleBook;LTreeCoverForge$Pile;)V"⟩
abbrev rm_Code_write : Room := { frames := 3, cells := 0, slots := 0, locals := 66 }
abbrev b_Code_chooseKinds : ByteArray := prog_2_method_3_code
def y_Code_chooseKinds : MethodName := ⟨"TreeCoverForge$Code", "chooseKinds", "(LTreeCoverForge$RuleBook;LTreeCoverForge$Pile;)V"⟩
abbrev rm_Code_chooseKinds : Room := { frames := 2, cells := 0, slots := 0, locals := 40 }
abbrev b_Code_followChoices : ByteArray := prog_2_method_4_code
def y_Code_followChoices : MethodName := ⟨"TreeCoverForge$Code", "followChoices", "(LTreeCoverForge$RuleBook;LTreeCoverForge$Pile;I)I"⟩
abbrev rm_Code_followChoices : Room := { frames := 0, cells := 0, slots := 0, locals := 0 }
abbrev b_Code_writeOperator : ByteArray := prog_2_method_5_code
def y_Code_writeOperator : MethodName := ⟨"TreeCoverForge$Code", "writeOperator", "(LTreeCoverForge$Pile;II)V"⟩
abbrev rm_Code_writeOperator : Room := { frames := 2, cells := 0, slots := 0, locals := 40 }
abbrev b_Code_append : ByteArray := prog_2_method_6_code
def y_Code_append : MethodName := ⟨"TreeCoverForge$Code", "append", "(IIIIII)V"⟩
abbrev rm_Code_append : Room := { frames := 0, cells := 0, slots := 0, locals := 0 }
abbrev b_Code_givePlaces : ByteArray := prog_2_method_7_code
def y_Code_givePlaces : MethodName := ⟨"TreeCoverForge$Code", "givePlaces", "(I)V"⟩
abbrev rm_Code_givePlaces : Room := { frames := 2, cells := 0, slots := 0, locals := 46 }
abbrev b_Code_releaseUntil : ByteArray := prog_2_method_8_code
def y_Code_releaseUntil : MethodName := ⟨"TreeCoverForge$Code", "releaseUntil", "(II)V"⟩
abbrev rm_Code_releaseUntil : Room := { frames := 0, cells := 0, slots := 0, locals := 0 }
abbrev b_Code_leastFree : ByteArray := prog_2_method_9_code
def y_Code_leastFree : MethodName := ⟨"TreeCoverForge$Code", "leastFree", "(I)I"⟩
abbrev rm_Code_leastFree : Room := { frames := 0, cells := 0, slots := 0, locals := 0 }
abbrev b_Code_spillFor : ByteArray := prog_2_method_10_code
def y_Code_spillFor : MethodName := ⟨"TreeCoverForge$Code", "spillFor", "(II)V"⟩
abbrev rm_Code_spillFor : Room := { frames := 1, cells := 0, slots := 0, locals := 22 }
abbrev b_Code_isNeededLonger : ByteArray := prog_2_method_11_code
def y_Code_isNeededLonger : MethodName := ⟨"TreeCoverForge$Code", "isNeededLonger", "(II)Z"⟩
abbrev rm_Code_isNeededLonger : Room := { frames := 0, cells := 0, slots := 0, locals := 0 }
abbrev b_Forge_instruction : ByteArray := prog_1_method_14_code
def y_Forge_instruction : MethodName := ⟨"TreeCoverForge", "instruction", "(II)I"⟩
abbrev rm_Forge_instruction : Room := { frames := 2, cells := 0, slots := 0, locals := 43 }
abbrev b_Code_tell : ByteArray := prog_2_method_12_code
def y_Code_tell : MethodName := ⟨"TreeCoverForge$Code", "tell", "(II)I"⟩
abbrev rm_Code_tell : Room := { frames := 1, cells := 0, slots := 0, locals := 21 }
abbrev b_Code_placeOf : ByteArray := prog_2_method_13_code
def y_Code_placeOf : MethodName := ⟨"TreeCoverForge$Code", "placeOf", "(I)I"⟩
abbrev rm_Code_placeOf : Room := { frames := 0, cells := 0, slots := 0, locals := 0 }
abbrev b_Forge_slots : ByteArray := prog_1_method_15_code
def y_Forge_slots : MethodName := ⟨"TreeCoverForge", "slots", "()I"⟩
abbrev rm_Forge_slots : Room := { frames := 0, cells := 0, slots := 0, locals := 0 }
abbrev b_Forge_set : ByteArray := prog_1_method_16_code
def y_Forge_set : MethodName := ⟨"TreeCoverForge", "set", "(II)Z"⟩
abbrev rm_Forge_set : Room := { frames := 1, cells := 0, slots := 0, locals := 20 }
abbrev b_Forge_run : ByteArray := prog_1_method_17_code
def y_Forge_run : MethodName := ⟨"TreeCoverForge", "run", "()I"⟩
abbrev rm_Forge_run : Room := { frames := 2, cells := 0, slots := 0, locals := 48 }
abbrev b_Code_execute : ByteArray := prog_2_method_14_code
def y_Code_execute : MethodName := ⟨"TreeCoverForge$Code", "execute", "([I)I"⟩
abbrev rm_Code_execute : Room := { frames := 1, cells := 0, slots := 0, locals := 24 }
abbrev b_Forge_resultOf : ByteArray := prog_1_method_26_code
def y_Forge_resultOf : MethodName := ⟨"TreeCoverForge", "resultOf", "(IIII[I)I"⟩
abbrev rm_Forge_resultOf : Room := { frames := 0, cells := 0, slots := 0, locals := 0 }
abbrev b_Forge_value : ByteArray := prog_1_method_18_code
def y_Forge_value : MethodName := ⟨"TreeCoverForge", "value", "()I"⟩
abbrev rm_Forge_value : Room := { frames := 3, cells := 0, slots := 0, locals := 65 }
abbrev b_Pile_evaluateTop : ByteArray := prog_4_method_9_code
def y_Pile_evaluateTop : MethodName := ⟨"TreeCoverForge$Pile", "evaluateTop", "([I)I"⟩
abbrev rm_Pile_evaluateTop : Room := { frames := 2, cells := 0, slots := 0, locals := 40 }
abbrev b_Model_init : ByteArray := prog_8_method_1_code
def y_Model_init : MethodName := ⟨"TreeCoverForgeModel", "<init>", "()V"⟩
abbrev rm_Model_init : Room := { frames := 1, cells := 0, slots := 0, locals := 20 }
abbrev b_Model_rule : ByteArray := prog_8_method_4_code
def y_Model_rule : MethodName := ⟨"TreeCoverForgeModel", "rule", "(IIIII)I"⟩
abbrev rm_Model_rule : Room := { frames := 1, cells := 0, slots := 0, locals := 21 }
abbrev b_Model_outside : ByteArray := prog_8_method_3_code
def y_Model_outside : MethodName := ⟨"TreeCoverForgeModel", "outside", "(II)Z"⟩
abbrev rm_Model_outside : Room := { frames := 0, cells := 0, slots := 0, locals := 0 }
abbrev b_Model_clear : ByteArray := prog_8_method_5_code
def y_Model_clear : MethodName := ⟨"TreeCoverForgeModel", "clear", "()V"⟩
abbrev rm_Model_clear : Room := { frames := 0, cells := 0, slots := 0, locals := 0 }
abbrev b_Model_states : ByteArray := prog_8_method_13_code
def y_Model_states : MethodName := ⟨"TreeCoverForgeModel", "states", "()I"⟩
abbrev rm_Model_states : Room := { frames := 4, cells := 0, slots := 0, locals := 94 }
abbrev b_Model_combine : ByteArray := prog_8_method_7_code
def y_Model_combine : MethodName := ⟨"TreeCoverForgeModel", "combine", "(I)V"⟩
abbrev rm_Model_combine : Room := { frames := 2, cells := 0, slots := 0, locals := 45 }
abbrev b_Model_through : ByteArray := prog_8_method_6_code
def y_Model_through : MethodName := ⟨"TreeCoverForgeModel", "through", "(II)J"⟩
abbrev rm_Model_through : Room := { frames := 1, cells := 0, slots := 0, locals := 20 }
abbrev b_Model_kids : ByteArray := prog_8_method_2_code
def y_Model_kids : MethodName := ⟨"TreeCoverForgeModel", "kids", "(I)I"⟩
abbrev rm_Model_kids : Room := { frames := 0, cells := 0, slots := 0, locals := 0 }
abbrev b_Model_known : ByteArray := prog_8_method_11_code
def y_Model_known : MethodName := ⟨"TreeCoverForgeModel", "known", "()Z"⟩
abbrev rm_Model_known : Room := { frames := 1, cells := 0, slots := 0, locals := 23 }
abbrev b_Model_lowest : ByteArray := prog_8_method_10_code
def y_Model_lowest : MethodName := ⟨"TreeCoverForgeModel", "lowest", "()J"⟩
abbrev rm_Model_lowest : Room := { frames := 0, cells := 0, slots := 0, locals := 0 }
abbrev b_Model_reach : ByteArray := prog_8_method_12_code
def y_Model_reach : MethodName := ⟨"TreeCoverForgeModel", "reach", "(III)Z"⟩
abbrev rm_Model_reach : Room := { frames := 3, cells := 0, slots := 0, locals := 70 }
abbrev b_Model_push : ByteArray := prog_8_method_14_code
def y_Model_push : MethodName := ⟨"TreeCoverForgeModel", "push", "(II)I"⟩
abbrev rm_Model_push : Room := { frames := 1, cells := 0, slots := 0, locals := 21 }
abbrev b_Model_pop : ByteArray := prog_8_method_15_code
def y_Model_pop : MethodName := ⟨"TreeCoverForgeModel", "pop", "()Z"⟩
abbrev rm_Model_pop : Room := { frames := 0, cells := 0, slots := 0, locals := 0 }
abbrev b_Model_trees : ByteArray := prog_8_method_16_code
def y_Model_trees : MethodName := ⟨"TreeCoverForgeModel", "trees", "()I"⟩
abbrev rm_Model_trees : Room := { frames := 0, cells := 0, slots := 0, locals := 0 }
abbrev b_Model_nodes : ByteArray := prog_8_method_17_code
def y_Model_nodes : MethodName := ⟨"TreeCoverForgeModel", "nodes", "()I"⟩
abbrev rm_Model_nodes : Room := { frames := 0, cells := 0, slots := 0, locals := 0 }
abbrev b_Model_relative : ByteArray := prog_8_method_19_code
def y_Model_relative : MethodName := ⟨"TreeCoverForgeModel", "relative", "(II)I"⟩
abbrev rm_Model_relative : Room := { frames := 5, cells := 0, slots := 0, locals := 114 }
abbrev b_Model_noNode : ByteArray := prog_8_method_18_code
def y_Model_noNode : MethodName := ⟨"TreeCoverForgeModel", "noNode", "(II)Z"⟩
abbrev rm_Model_noNode : Room := { frames := 4, cells := 0, slots := 0, locals := 92 }
abbrev b_Model_work : ByteArray := prog_8_method_9_code
def y_Model_work : MethodName := ⟨"TreeCoverForgeModel", "work", "()Z"⟩
abbrev rm_Model_work : Room := { frames := 3, cells := 0, slots := 0, locals := 70 }
abbrev b_Model_takeKids : ByteArray := prog_8_method_8_code
def y_Model_takeKids : MethodName := ⟨"TreeCoverForgeModel", "takeKids", "(I)V"⟩
abbrev rm_Model_takeKids : Room := { frames := 1, cells := 0, slots := 0, locals := 20 }
abbrev b_Model_choice : ByteArray := prog_8_method_20_code
def y_Model_choice : MethodName := ⟨"TreeCoverForgeModel", "choice", "(II)I"⟩
abbrev rm_Model_choice : Room := { frames := 5, cells := 0, slots := 0, locals := 114 }
abbrev b_Model_cost : ByteArray := prog_8_method_21_code
def y_Model_cost : MethodName := ⟨"TreeCoverForgeModel", "cost", "(I)I"⟩
abbrev rm_Model_cost : Room := { frames := 4, cells := 0, slots := 0, locals := 92 }
abbrev b_Model_registers : ByteArray := prog_8_method_22_code
def y_Model_registers : MethodName := ⟨"TreeCoverForgeModel", "registers", "(I)Z"⟩
abbrev rm_Model_registers : Room := { frames := 0, cells := 0, slots := 0, locals := 0 }
abbrev b_Model_cover : ByteArray := prog_8_method_28_code
def y_Model_cover : MethodName := ⟨"TreeCoverForgeModel", "cover", "()I"⟩
abbrev rm_Model_cover : Room := { frames := 4, cells := 0, slots := 0, locals := 92 }
abbrev b_Model_want : ByteArray := prog_8_method_24_code
def y_Model_want : MethodName := ⟨"TreeCoverForgeModel", "want", "(I)V"⟩
abbrev rm_Model_want : Room := { frames := 1, cells := 0, slots := 0, locals := 20 }
abbrev b_Model_emit : ByteArray := prog_8_method_25_code
def y_Model_emit : MethodName := ⟨"TreeCoverForgeModel", "emit", "(II)V"⟩
abbrev rm_Model_emit : Room := { frames := 1, cells := 0, slots := 0, locals := 25 }
abbrev b_Model_write : ByteArray := prog_8_method_23_code
def y_Model_write : MethodName := ⟨"TreeCoverForgeModel", "write", "(IIIII)V"⟩
abbrev rm_Model_write : Room := { frames := 0, cells := 0, slots := 0, locals := 0 }
abbrev b_Model_settle : ByteArray := prog_8_method_27_code
def y_Model_settle : MethodName := ⟨"TreeCoverForgeModel", "settle", "(I)V"⟩
abbrev rm_Model_settle : Room := { frames := 1, cells := 0, slots := 0, locals := 22 }
abbrev b_Model_holds : ByteArray := prog_8_method_26_code
def y_Model_holds : MethodName := ⟨"TreeCoverForgeModel", "holds", "(II)Z"⟩
abbrev rm_Model_holds : Room := { frames := 0, cells := 0, slots := 0, locals := 0 }
abbrev b_Model_instruction : ByteArray := prog_8_method_29_code
def y_Model_instruction : MethodName := ⟨"TreeCoverForgeModel", "instruction", "(II)I"⟩
abbrev rm_Model_instruction : Room := { frames := 1, cells := 0, slots := 0, locals := 21 }
abbrev b_Model_slots : ByteArray := prog_8_method_30_code
def y_Model_slots : MethodName := ⟨"TreeCoverForgeModel", "slots", "()I"⟩
abbrev rm_Model_slots : Room := { frames := 0, cells := 0, slots := 0, locals := 0 }
abbrev b_Model_set : ByteArray := prog_8_method_31_code
def y_Model_set : MethodName := ⟨"TreeCoverForgeModel", "set", "(II)Z"⟩
abbrev rm_Model_set : Room := { frames := 1, cells := 0, slots := 0, locals := 21 }
abbrev b_Model_run : ByteArray := prog_8_method_33_code
def y_Model_run : MethodName := ⟨"TreeCoverForgeModel", "run", "()I"⟩
abbrev rm_Model_run : Room := { frames := 1, cells := 0, slots := 0, locals := 24 }
abbrev b_Model_calculate : ByteArray := prog_8_method_32_code
def y_Model_calculate : MethodName := ⟨"TreeCoverForgeModel", "calculate", "(IIII)I"⟩
abbrev rm_Model_calculate : Room := { frames := 0, cells := 0, slots := 0, locals := 0 }
abbrev b_Model_value : ByteArray := prog_8_method_34_code
def y_Model_value : MethodName := ⟨"TreeCoverForgeModel", "value", "()I"⟩
abbrev rm_Model_value : Room := { frames := 1, cells := 0, slots := 0, locals := 24 }
abbrev b_Law_law : ByteArray := code
def y_Law_law : MethodName := ⟨"TreeCoverForgeLaw", "law", "([I)Z"⟩
end
section
/-! The world as a function: every cell has a number c, an address ad c, and ints and longs S.1 c, S.2 c; what it looks like is its layout y c. No call after the constructors makes a cell, so a method turns S into another S and leaves the rest. -/
abbrev zz_S : Type := (Nat → Nat → Int32) × (Nat → Nat → Int64)
abbrev zz_Y : Type := Nat → (Nat → Int32) → (Nat → Int64) → va_E
def zz_u (S : zz_S) (c k : Nat) (v : Int32) : zz_S := (va_up S.1 c (upd (S.1 c) k v), S.2)
def zz_v (S : zz_S) (c k : Nat) (v : Int64) : zz_S := (S.1, va_up S.2 c (vp_updL (S.2 c) k v))
def zz_w (n : Nat) (ad : Nat → Nat) (y : zz_Y) (S : zz_S) : va_W := (List.range n).map (fun c => (ad c, y c (S.1 c) (S.2 c)))
theorem zz_w_at {n : Nat} {ad : Nat → Nat} {y : zz_Y} {S : zz_S} {c : Nat} (h : c < n) : (zz_w n ad y S)[c]? = some (ad c, y c (S.1 c) (S.2 c)) := by
  simp [zz_w, h]
theorem zz_w_none {n : Nat} {ad : Nat → Nat} {y : zz_Y} {S : zz_S} {c : Nat} (h : ¬ c < n) : (zz_w n ad y S)[c]? = none := by
  apply List.getElem?_eq_none
  simp only [zz_w, List.length_map, List.length_range]
  omega
theorem zz_w_inv {n : Nat} {ad : Nat → Nat} {y : zz_Y} {S : zz_S} {k : Nat} {q : Nat × va_E} (h : (zz_w n ad y S)[k]? = some q) : k < n ∧ q = (ad k, y k (S.1 k) (S.2 k)) := by
  by_cases hk : k < n
  · rw [zz_w_at hk] at h
    exact ⟨hk, (Option.some.inj h).symm⟩
  · rw [zz_w_none hk] at h
    cases h
theorem zz_w_set {n : Nat} {ad : Nat → Nat} {y : zz_Y} {S S' : zz_S} {c : Nat} {e : va_E} (h : c < n) (h1 : ∀ d, d ≠ c → S'.1 d = S.1 d) (h2 : ∀ d, d ≠ c → S'.2 d = S.2 d) (he : y c (S'.1 c) (S'.2 c) = e) : (zz_w n ad y S).set c (ad c, e) = zz_w n ad y S' := by
  apply List.ext_getElem?
  intro k
  have hlen : (zz_w n ad y S).length = n := by simp only [zz_w, List.length_map, List.length_range]
  by_cases hk : k < n
  · by_cases hc : c = k
    · subst hc
      rw [zz_w_at h, List.getElem?_set_self (by omega), he]
    · rw [List.getElem?_set_ne hc, zz_w_at hk, zz_w_at hk, h1 k (fun x => hc x.symm), h2 k (fun x => hc x.symm)]
  · rw [zz_w_none hk, List.getElem?_eq_none (by rw [List.length_set]; omega)]
theorem zz_u1 (S : zz_S) (c k : Nat) (v : Int32) (d : Nat) (h : d ≠ c) : (zz_u S c k v).1 d = S.1 d := by
  show va_up S.1 c _ d = S.1 d
  rw [va_up, if_neg h]
theorem zz_u1s (S : zz_S) (c k : Nat) (v : Int32) : (zz_u S c k v).1 c = upd (S.1 c) k v := by
  show va_up S.1 c _ c = _
  rw [va_up, if_pos rfl]
theorem zz_v2 (S : zz_S) (c k : Nat) (v : Int64) (d : Nat) (h : d ≠ c) : (zz_v S c k v).2 d = S.2 d := by
  show va_up S.2 c _ d = S.2 d
  rw [va_up, if_neg h]
theorem zz_v2s (S : zz_S) (c k : Nat) (v : Int64) : (zz_v S c k v).2 c = vp_updL (S.2 c) k v := by
  show va_up S.2 c _ c = _
  rw [va_up, if_pos rfl]
/-- what the tables and the cells of one side are: classes, array classes, how many cells, where, of which layout; and where the class's table of arities is -/
abbrev zz_G : Type := va_G × List vw_C × List (ClassId × FieldType) × Nat × (Nat → Nat) × zz_Y × Nat
abbrev zz_D (G : zz_G) : va_G := G.1
abbrev zz_cl (G : zz_G) : List vw_C := G.2.1
abbrev zz_ty (G : zz_G) : List (ClassId × FieldType) := G.2.2.1
abbrev zz_n (G : zz_G) : Nat := G.2.2.2.1
abbrev zz_ad (G : zz_G) : Nat → Nat := G.2.2.2.2.1
abbrev zz_y (G : zz_G) : zz_Y := G.2.2.2.2.2.1
abbrev zz_t (G : zz_G) : Nat := G.2.2.2.2.2.2
def zz_W (G : zz_G) (S : zz_S) : va_W := zz_w (zz_n G) (zz_ad G) (zz_y G) S
def zz_A (G : zz_G) : Nat → Prop := fun q => ∃ c, c < zz_n G ∧ q = zz_ad G c
def zz_kd (k : Nat) : Nat := if k < 3 then 0 else if k < 5 then 1 else 2
def zz_ar : Nat → Value := fun j => .int (nI (zz_kd j))
def zz_N (U : State) : Prop := ∀ w, w ∈ lw_tbl → zz_isN w = true → va_Nw w U
theorem zz_N.warm {s U : State} (hW : s.WarmedH U.vm) (h : zz_N s) : zz_N U := fun w hw hn => by
  have h1 := h w hw hn
  cases w <;> first | (exact va_Nw.warmM hW h1) | (exact va_Nw.warmF hW h1) | (cases hn)
theorem zz_N.same {s U : State} (hv : s.vm = U.vm) (h : zz_N s) : zz_N U := fun w hw hn => by
  have h1 := h w hw hn
  cases w <;> first | (cases hn; done) | (exact va_Nw.same rfl hv h1)
def zz_K (G : zz_G) (U : State) (H : Heap) : Prop := va_K (zz_D G) (zz_cl G) (zz_ty G) U ∧ va_Z "TreeCoverForge" "ARITIES" "[I" (.ref (zz_t G)) (zz_A G) U H ∧ va_T .int (zz_t G) 8 zz_ar (zz_A G) U H ∧ zz_N U
def zz_P (G : zz_G) (S : zz_S) (U : State) : Prop := va_P (zz_D G) (zz_cl G) (zz_W G S) U.heap ∧ va_D (zz_A G) (zz_W G S) ∧ zz_K G U U.heap
def zz_Z (G : zz_G) (S : zz_S) (H0 H : Heap) (locs : List Loc) : Prop := va_P (zz_D G) (zz_cl G) (zz_W G S) H ∧ va_D (zz_A G) (zz_W G S) ∧ va_S (zz_A G) H0 H locs
def zz_Pc (args : List Value) (G : zz_G) (S : zz_S) : Array Value → State → Prop := va_Pc args (zz_P G S)
theorem zz_K.warm {G : zz_G} {u U : State} {H : Heap} (hW : u.WarmedH U.vm) (h : zz_K G u H) : zz_K G U H := ⟨va_K.moved hW.alike h.1, va_Z.moved hW.alike h.2.1, va_T.moved hW.alike h.2.2.1, zz_N.warm hW h.2.2.2⟩
theorem zz_K.same {G : zz_G} {u U : State} {H : Heap} (hv : u.vm = U.vm) (hvm : u.vm.Alike U.vm) (h : zz_K G u H) : zz_K G U H := ⟨va_K.moved hvm h.1, va_Z.moved hvm h.2.1, va_T.moved hvm h.2.2.1, zz_N.same hv h.2.2.2⟩
theorem zz_K.kept {G : zz_G} {U : State} {H H1 : Heap} (h : zz_K G U H) (hq : ∀ a : Nat, a < H.size → ¬ zz_A G a → H1[a]? = H[a]?) : zz_K G U H1 := ⟨h.1, va_Z.kept h.2.1 hq, va_T.kept h.2.2.1 hq, h.2.2.2⟩
theorem zz_W_at {G : zz_G} {S : zz_S} {c : Nat} (h : c < zz_n G) {e : va_E} (he : zz_y G c (S.1 c) (S.2 c) = e) : (zz_W G S)[c]? = some (zz_ad G c, e) := by
  rw [← he]
  exact zz_w_at h
/-- a method's fixed facts: the machine, its code, its class, the tables' words -/
def zz_C (p : Program) (s : State) (m : MethodId) (args : Array Value) (meth : Method) (c : Code) (cc : ByteArray) (maxL : Nat) (ret : Option FieldType) (own : String) : Prop :=
  p.tables.exec = Jvm.exec ∧ c.code = cc ∧ c.maxLocals = maxL ∧ s.vm.findClass own = some m.cls ∧ (∀ w ∈ zz_tbl, w.before args s = true) ∧ meth.sig.returnType = ret ∧ meth.locks = false
theorem zz_met {l : Launch} {y : MethodName} {cc : ByteArray} {maxL : Nat} {ret : Option FieldType} {rm : Room} {args : List Value} {G : zz_G} {S : zz_S} {Qc : Array Value → State → Outcome → State → Prop} (hy : plainName y.cls = true) (hlen : (lg_sl args).length ≤ maxL)
    (body : ∀ (p : Program) (e : Env) (s : State) (m : MethodId) (below : List Frame) (meth : Method) (c : Code) (ls : Array Slot), zz_C p s m args.toArray meth c cc maxL ret y.cls → zz_K G s s.heap → zz_Z G S s.heap s.heap [] → lv_has ls maxL (lv_args 0 args) → W p l e rm s m args.toArray below meth c s.heap [] 0 0 (MQ below Qc args.toArray s 0 0 (zz_A G)) (F0 m 0 ls [])) :
    Met l y (Cond.code y cc maxL ret :: zz_tbl) rm (zz_Pc args G S) Qc 0 0 (zz_A G) := by
  refine Met.ofW (cc := cc) (maxL := maxL) (ret := ret) hy rfl ?_
  intro p e s m args' below meth c s₁ B hml hv
  obtain ⟨rfl, hP, hD, hK⟩ := hv
  have hts := atoms_spec (ws := Cond.code y cc maxL ret :: zz_tbl) B.pre
  rw [lg_entry_eq]
  exact body p e s m below meth c _ ⟨B.exec, B.bytes, hml, findClass_of_methodNamed B.named, fun w hw => hts w (List.mem_cons_of_mem _ hw), B.returns, B.notSynchronized⟩ hK ⟨hP, hD, va_S.rf⟩ (lv_entry args hlen)
theorem zz_blind {args : List Value} {G : zz_G} {S : zz_S} : FrameBlind (zz_Pc args G S) := fun a U g mk q => by
  obtain ⟨q0, qP, qD, qK⟩ := q
  exact ⟨q0, qP, qD, zz_K.same (u := U) (U := U.calling g mk a) rfl (Vm.Alike.refl U.vm) qK⟩
theorem zz_here {G : zz_G} {S : zz_S} {s U : State} {H : Heap} {locs : List Loc} (hK : zz_K G s s.heap) (hZ : zz_Z G S s.heap H locs) (hU : U.heap = H) (hvm : s.WarmedH U.vm) : zz_P G S U := by
  refine ⟨by rw [hU]; exact hZ.1, hZ.2.1, ?_⟩
  refine zz_K.warm hvm (zz_K.kept hK ?_)
  rw [hU]
  exact hZ.2.2.2.1
section ZR
variable {p : Program} {l : Launch} {e : Env} {R : Room} {s : State} {m : MethodId} {args : Array Value} {below : List Frame} {meth : Method} {c : Code} {H : Heap} {locs : List Loc} {cells slots : Nat} {Q : State → Prop}
variable {cc : ByteArray} {maxL : Nat} {ret : Option FieldType} {own : String} {pc : Nat} {ls : Array Slot} {rest : List Value} {G : zz_G} {S : zz_S}
/-- the ends -/
theorem zz_iret {post : Int32 → zz_S → Prop} {v : Int32} (hC : zz_C p s m args meth c cc maxL ret own) (hK : zz_K G s s.heap) (hZ : zz_Z G S s.heap H locs) (hret : ret = some .int) (hdg : decode cc pc = .ok (.ireturn, 1)) (hp : post v S) : W p l e R s m args below meth c H locs 0 0 (MQ below (va_Qi post (zz_P G) (zz_A G)) args s 0 0 (zz_A G)) (F0 m pc ls [.int v]) :=
  W.iret hC.1 hC.2.1 (hC.2.2.2.2.2.1.trans hret) (fun t ht hW => ⟨⟨v, S, rfl, hp, zz_here hK hZ ht hW⟩, hZ.2.2.F ht⟩) hZ.2.2.2.2 hdg hC.2.2.2.2.2.2
theorem zz_zret {post : Int32 → zz_S → Prop} {v : Int32} (hC : zz_C p s m args meth c cc maxL ret own) (hK : zz_K G s s.heap) (hZ : zz_Z G S s.heap H locs) (hret : ret = some .boolean) (hdg : decode cc pc = .ok (.ireturn, 1)) (hn : narrow .boolean (.int v) = .int v) (hp : post v S) : W p l e R s m args below meth c H locs 0 0 (MQ below (va_Qi post (zz_P G) (zz_A G)) args s 0 0 (zz_A G)) (F0 m pc ls [.int v]) :=
  W.zret hC.1 hC.2.1 (hC.2.2.2.2.2.1.trans hret) hn (fun t ht hW => ⟨⟨v, S, rfl, hp, zz_here hK hZ ht hW⟩, hZ.2.2.F ht⟩) hZ.2.2.2.2 hdg hC.2.2.2.2.2.2
theorem zz_lret {post : Int64 → zz_S → Prop} {v : Int64} (hC : zz_C p s m args meth c cc maxL ret own) (hK : zz_K G s s.heap) (hZ : zz_Z G S s.heap H locs) (hret : ret = some .long) (hdg : decode cc pc = .ok (.lreturn, 1)) (hp : post v S) : W p l e R s m args below meth c H locs 0 0 (MQ below (va_Ql post (zz_P G) (zz_A G)) args s 0 0 (zz_A G)) (F0 m pc ls [.long v]) :=
  W.lret hC.1 hC.2.1 (hC.2.2.2.2.2.1.trans hret) (fun t ht hW => ⟨⟨v, S, rfl, hp, zz_here hK hZ ht hW⟩, hZ.2.2.F ht⟩) hZ.2.2.2.2 hdg hC.2.2.2.2.2.2
theorem zz_vret {post : zz_S → Prop} (hC : zz_C p s m args meth c cc maxL ret own) (hK : zz_K G s s.heap) (hZ : zz_Z G S s.heap H locs) (hret : ret = none) (hdg : decode cc pc = .ok (.return_, 1)) (hp : post S) : W p l e R s m args below meth c H locs 0 0 (MQ below (va_Qv post (zz_P G) (zz_A G)) args s 0 0 (zz_A G)) (F0 m pc ls []) :=
  W.vret hC.1 hC.2.1 (hC.2.2.2.2.2.1.trans hret) (fun t ht hW => ⟨⟨S, rfl, hp, zz_here hK hZ ht hW⟩, hZ.2.2.F ht⟩) hZ.2.2.2.2 hdg hC.2.2.2.2.2.2
/-- a reference to the cell number q is answered -/
theorem zz_aret {post : Nat → zz_S → Prop} {q : Nat} {C : String} (hC : zz_C p s m args meth c cc maxL ret own) (hK : zz_K G s s.heap) (hZ : zz_Z G S s.heap H locs) (hret : ret = some (.object C)) (hdg : decode cc pc = .ok (.areturn, 1)) (hp : post q S) : W p l e R s m args below meth c H locs 0 0 (MQ below (va_Qr (fun u : Nat × zz_S => post u.1 u.2) (fun u a t => a = zz_ad G u.1 ∧ zz_P G u.2 t) (zz_A G)) args s 0 0 (zz_A G)) (F0 m pc ls [.ref (zz_ad G q)]) :=
  W.aret hC.1 hC.2.1 (hC.2.2.2.2.2.1.trans hret) (Or.inl ⟨C, rfl⟩) (Or.inr ⟨_, rfl⟩) (fun t ht hW => ⟨⟨(q, S), zz_ad G q, rfl, hp, rfl, zz_here hK hZ ht hW⟩, hZ.2.2.F ht⟩) hZ.2.2.2.2 hdg hC.2.2.2.2.2.2
/-- fields -/
theorem zz_get {ref C : String} {T : u_T} {N ci index : Nat} (hC : zz_C p s m args meth c cc maxL ret own) (hK : zz_K G s s.heap) (hZ : zz_Z G S s.heap H locs) (c0 k : Nat) {fs : List Value} (hc0 : c0 < zz_n G) (he : zz_y G c0 (S.1 c0) (S.2 c0) = .inr (ci, fs)) (hc : (zz_cl G)[ci]? = some (C, T, N)) (hin : ∀ w ∈ u_ws C T N, w ∈ zz_tbl) (hk : k < N) (hlink : Cond.fieldLink own index ref (T k).2.1 (T k).2.2.1 ∈ zz_tbl) (hT : (T k).1 = ref) {v : Value} (hv : fs[k]? = some v) (hdg : decode cc pc = .ok (.getfield index, 3)) (kk : W p l e R s m args below meth c H locs cells slots Q (F0 m (pc + 3) ls (v :: rest))) : W p l e R s m args below meth c H locs cells slots Q (F0 m pc ls (.ref (zz_ad G c0) :: rest)) :=
  va_get (D := zz_D G) hC.1 hC.2.1 hC.2.2.2.2.1 hin hC.2.2.2.1 hK.1 hZ.1 c0 (zz_W_at hc0 he) hc k hk (hC.2.2.2.2.1 _ hlink) (fun x h => by rw [← hT]; exact h) hv hdg kk
theorem zz_put {ref C : String} {T : u_T} {N ci index : Nat} (hC : zz_C p s m args meth c cc maxL ret own) (hK : zz_K G s s.heap) (hZ : zz_Z G S s.heap H locs) (c0 k : Nat) {fs : List Value} (hc0 : c0 < zz_n G) (he : zz_y G c0 (S.1 c0) (S.2 c0) = .inr (ci, fs)) (hc : (zz_cl G)[ci]? = some (C, T, N)) (hin : ∀ w ∈ u_ws C T N, w ∈ zz_tbl) (ty0 : Nat → FieldType) (hty : ∀ k, k < N → parseFieldDescriptor (T k).2.2.1 = some (ty0 k)) (hnm : ∀ a, a < N → ∀ b, b < N → a ≠ b → (T a).2.1 ≠ (T b).2.1) (hk : k < N) (hlink : Cond.fieldLink own index ref (T k).2.1 (T k).2.2.1 ∈ zz_tbl) (hT : (T k).1 = ref) (hfin : (T k).2.2.2 = false) {v : Int32} (hd : parseFieldDescriptor (T k).2.2.1 = some .int) (hl : k < fs.length) (he' : zz_y G c0 (upd (S.1 c0) k v) (S.2 c0) = .inr (ci, fs.set k (.int v))) (hdg : decode cc pc = .ok (.putfield index, 3)) (kk : ∀ (H1 : Heap) (locs1 : List Loc), zz_Z G (zz_u S c0 k v) s.heap H1 locs1 → W p l e R s m args below meth c H1 locs1 cells slots Q (F0 m (pc + 3) ls rest)) : W p l e R s m args below meth c H locs cells slots Q (F0 m pc ls (.int v :: .ref (zz_ad G c0) :: rest)) := by
  refine va_put (D := zz_D G) hC.1 hC.2.1 hC.2.2.2.2.1 hin ty0 hty hnm hC.2.2.2.1 hK.1 hZ.1 hZ.2.1 hZ.2.2 c0 (zz_W_at hc0 he) hc k hk (hC.2.2.2.2.1 _ hlink) (fun x h => by rw [← hT]; exact h) hfin hd rfl rfl hl hdg (fun H1 locs1 h1 h2 h3 => ?_)
  have hw : (zz_W G S).set c0 (zz_ad G c0, .inr (ci, fs.set k (.int v))) = zz_W G (zz_u S c0 k v) := zz_w_set hc0 (fun d hd => zz_u1 S c0 k v d hd) (fun d _ => rfl) (by rw [zz_u1s]; exact he')
  rw [hw] at h1 h2
  exact kk H1 locs1 ⟨h1, h2, h3⟩
/-- arrays -/
theorem zz_iald {nn : Nat} {cA : ClassId} (hC : zz_C p s m args meth c cc maxL ret own) (hK : zz_K G s s.heap) (hZ : zz_Z G S s.heap H locs) (c0 t0 k : Nat) (hc0 : c0 < zz_n G) (he : zz_y G c0 (S.1 c0) (S.2 c0) = .inl (cA, nn, .inl (S.1 c0))) (ht : (zz_ty G)[t0]? = some (cA, .int)) {i v : Int32} (hi : i = nI k) (hkn : k < nn) (hnn : nn < 2 ^ 31) (hv : S.1 c0 k = v) (hdg : decode cc pc = .ok (.iaload, 1)) (kk : W p l e R s m args below meth c H locs cells slots Q (F0 m (pc + 1) ls (.int v :: rest))) : W p l e R s m args below meth c H locs cells slots Q (F0 m pc ls (.int i :: .ref (zz_ad G c0) :: rest)) := by
  subst hi
  refine va_iald hC.1 hC.2.1 hK.1 hZ.1 c0 t0 (zz_W_at hc0 he) ht (vp_in_nI hkn hnn) hdg ?_
  rw [nI_clamp (by omega), hv]
  exact kk
theorem zz_iast {nn : Nat} {cA : ClassId} (hC : zz_C p s m args meth c cc maxL ret own) (hK : zz_K G s s.heap) (hZ : zz_Z G S s.heap H locs) (c0 t0 k : Nat) (hc0 : c0 < zz_n G) (he : ∀ f, zz_y G c0 f (S.2 c0) = .inl (cA, nn, .inl f)) (ht : (zz_ty G)[t0]? = some (cA, .int)) {i v : Int32} (hi : i = nI k) (hkn : k < nn) (hnn : nn < 2 ^ 31) (hdg : decode cc pc = .ok (.iastore, 1)) (kk : ∀ (H1 : Heap) (locs1 : List Loc), zz_Z G (zz_u S c0 k v) s.heap H1 locs1 → W p l e R s m args below meth c H1 locs1 cells slots Q (F0 m (pc + 1) ls rest)) : W p l e R s m args below meth c H locs cells slots Q (F0 m pc ls (.int v :: .int i :: .ref (zz_ad G c0) :: rest)) := by
  subst hi
  refine va_iast hC.1 hC.2.1 hK.1 hZ.1 hZ.2.1 hZ.2.2 c0 t0 (zz_W_at hc0 (he _)) ht (vp_in_nI hkn hnn) hdg (fun H1 locs1 h1 h2 h3 => ?_)
  rw [nI_clamp (by omega)] at h1 h2
  have hw : (zz_W G S).set c0 (zz_ad G c0, .inl (cA, nn, .inl (upd (S.1 c0) k v))) = zz_W G (zz_u S c0 k v) := zz_w_set hc0 (fun d hd => zz_u1 S c0 k v d hd) (fun d _ => rfl) (by rw [zz_u1s]; exact he _)
  rw [hw] at h1 h2
  exact kk H1 locs1 ⟨h1, h2, h3⟩
theorem zz_lald {nn : Nat} {cA : ClassId} (hC : zz_C p s m args meth c cc maxL ret own) (hK : zz_K G s s.heap) (hZ : zz_Z G S s.heap H locs) (c0 t0 k : Nat) (hc0 : c0 < zz_n G) (he : zz_y G c0 (S.1 c0) (S.2 c0) = .inl (cA, nn, .inr (.inl (S.2 c0)))) (ht : (zz_ty G)[t0]? = some (cA, .long)) {i : Int32} {v : Int64} (hi : i = nI k) (hkn : k < nn) (hnn : nn < 2 ^ 31) (hv : S.2 c0 k = v) (hdg : decode cc pc = .ok (.laload, 1)) (kk : W p l e R s m args below meth c H locs cells slots Q (F0 m (pc + 1) ls (.long v :: rest))) : W p l e R s m args below meth c H locs cells slots Q (F0 m pc ls (.int i :: .ref (zz_ad G c0) :: rest)) := by
  subst hi
  refine va_lald hC.1 hC.2.1 hK.1 hZ.1 c0 t0 (zz_W_at hc0 he) ht (vp_in_nI hkn hnn) hdg ?_
  rw [nI_clamp (by omega), hv]
  exact kk
theorem zz_last {nn : Nat} {cA : ClassId} (hC : zz_C p s m args meth c cc maxL ret own) (hK : zz_K G s s.heap) (hZ : zz_Z G S s.heap H locs) (c0 t0 k : Nat) (hc0 : c0 < zz_n G) (he : ∀ f, zz_y G c0 (S.1 c0) f = .inl (cA, nn, .inr (.inl f))) (ht : (zz_ty G)[t0]? = some (cA, .long)) {i : Int32} {v : Int64} (hi : i = nI k) (hkn : k < nn) (hnn : nn < 2 ^ 31) (hdg : decode cc pc = .ok (.lastore, 1)) (kk : ∀ (H1 : Heap) (locs1 : List Loc), zz_Z G (zz_v S c0 k v) s.heap H1 locs1 → W p l e R s m args below meth c H1 locs1 cells slots Q (F0 m (pc + 1) ls rest)) : W p l e R s m args below meth c H locs cells slots Q (F0 m pc ls (.long v :: .int i :: .ref (zz_ad G c0) :: rest)) := by
  subst hi
  refine va_last hC.1 hC.2.1 hK.1 hZ.1 hZ.2.1 hZ.2.2 c0 t0 (zz_W_at hc0 (he _)) ht (vp_in_nI hkn hnn) hdg (fun H1 locs1 h1 h2 h3 => ?_)
  rw [nI_clamp (by omega)] at h1 h2
  have hw : (zz_W G S).set c0 (zz_ad G c0, .inl (cA, nn, .inr (.inl (vp_updL (S.2 c0) k v)))) = zz_W G (zz_v S c0 k v) := zz_w_set hc0 (fun d _ => rfl) (fun d hd => zz_v2 S c0 k v d hd) (by rw [zz_v2s]; exact he _)
  rw [hw] at h1 h2
  exact kk H1 locs1 ⟨h1, h2, h3⟩
theorem zz_alen {x : vp_A} {cA : ClassId} {ty : FieldType} (hC : zz_C p s m args meth c cc maxL ret own) (hK : zz_K G s s.heap) (hZ : zz_Z G S s.heap H locs) (c0 t0 : Nat) (hc0 : c0 < zz_n G) (he : zz_y G c0 (S.1 c0) (S.2 c0) = .inl (cA, x)) (ht : (zz_ty G)[t0]? = some (cA, ty)) (hdg : decode cc pc = .ok (.arraylength, 1)) (kk : W p l e R s m args below meth c H locs cells slots Q (F0 m (pc + 1) ls (.int (nI x.1) :: rest))) : W p l e R s m args below meth c H locs cells slots Q (F0 m pc ls (.ref (zz_ad G c0) :: rest)) :=
  va_alen hC.1 hC.2.1 hK.1 hZ.1 c0 t0 (zz_W_at hc0 he) ht rfl hdg kk
/-- an array of references: the one at k is the cell number q -/
theorem zz_aald {nn q : Nat} {cA : ClassId} {ty : FieldType} {f : Nat → Option Nat} (hC : zz_C p s m args meth c cc maxL ret own) (hK : zz_K G s s.heap) (hZ : zz_Z G S s.heap H locs) (c0 t0 k : Nat) (hc0 : c0 < zz_n G) (he : zz_y G c0 (S.1 c0) (S.2 c0) = .inl (cA, nn, .inr (.inr (.inr (.inr f))))) (ht : (zz_ty G)[t0]? = some (cA, ty)) (hty : ty.isReference = true) {i : Int32} (hi : i = nI k) (hkn : k < nn) (hnn : nn < 2 ^ 31) (hv : f k = some (zz_ad G q)) (hdg : decode cc pc = .ok (.aaload, 1)) (kk : W p l e R s m args below meth c H locs cells slots Q (F0 m (pc + 1) ls (.ref (zz_ad G q) :: rest))) : W p l e R s m args below meth c H locs cells slots Q (F0 m pc ls (.int i :: .ref (zz_ad G c0) :: rest)) := by
  subst hi
  have hcell : H[zz_ad G c0]? = some (vp_cell cA (nn, .inr (.inr (.inr (.inr f))))) := hZ.1 c0 _ (zz_W_at hc0 he)
  rw [vp_cell_q] at hcell
  refine W.aald hC.1 hC.2.1 (v := .ref (zz_ad G q)) hcell ((hK.1.2 t0 _ ht).1 nn _) hty (by simp [arrV]) ?_ ?_ rfl rfl hdg kk
  · have h1 : vp_in (nI k) nn := vp_in_nI hkn hnn
    simp only [arrV, Array.size_ofFn]
    exact h1
  · rw [nI_clamp (by omega)]
    simp [arrV, hkn, hv, va_rf]
/-- the table of arities -/
theorem zz_ari (hC : zz_C p s m args meth c cc maxL ret own) (hK : zz_K G s s.heap) (hZ : zz_Z G S s.heap H locs) (k : Nat) {i : Int32} (hi : i = nI k) (hk : k < 8) (hdg : decode cc pc = .ok (.iaload, 1)) (kk : W p l e R s m args below meth c H locs cells slots Q (F0 m (pc + 1) ls (.int (nI (zz_kd k)) :: rest))) : W p l e R s m args below meth c H locs cells slots Q (F0 m pc ls (.int i :: .ref (zz_t G) :: rest)) := by
  subst hi
  exact va_ti hC.1 hC.2.1 hK.2.2.1 hZ.2.2 (vp_in_nI hk (by decide)) (by rw [nI_clamp (by omega)]; rfl) hdg kk
theorem zz_gars {ref : String} {index : Nat} (hC : zz_C p s m args meth c cc maxL ret own) (hK : zz_K G s s.heap) (hZ : zz_Z G S s.heap H locs) (hlink : Cond.fieldLink own index "TreeCoverForge" "ARITIES" "[I" ∈ zz_tbl) (hdg : decode cc pc = .ok (.getstatic index, 3)) (kk : W p l e R s m args below meth c H locs cells slots Q (F0 m (pc + 3) ls (.ref (zz_t G) :: rest))) : W p l e R s m args below meth c H locs cells slots Q (F0 m pc ls rest) :=
  va_gets hC.1 hC.2.1 hK.2.1 hZ.2.2 hC.2.2.2.1 (hC.2.2.2.2.1 _ hlink) (fun _ h => h) hdg kk
theorem zz_garsN {host : String} {index : Nat} (hC : zz_C p s m args meth c cc maxL ret own) (hK : zz_K G s s.heap) (hZ : zz_Z G S s.heap H locs) (hlink : Cond.fieldLinkNest own index "TreeCoverForge" "ARITIES" "[I" host ∈ lw_tbl) (hdg : decode cc pc = .ok (.getstatic index, 3)) (kk : W p l e R s m args below meth c H locs cells slots Q (F0 m (pc + 3) ls (.ref (zz_t G) :: rest))) : W p l e R s m args below meth c H locs cells slots Q (F0 m pc ls rest) :=
  va_getsN hC.1 hC.2.1 hK.2.1 hZ.2.2 hC.2.2.2.1 (va_Nw.use rfl (hK.2.2.2 _ hlink rfl)) (fun _ h => h) hdg kk
/-- the top of the stack by another name -/
theorem zz_topi {x y : Int32} (h : x = y) (kk : W p l e R s m args below meth c H locs cells slots Q (F0 m pc ls (.int y :: rest))) : W p l e R s m args below meth c H locs cells slots Q (F0 m pc ls (.int x :: rest)) := by
  rw [h]; exact kk
theorem zz_topl {x y : Int64} (h : x = y) (kk : W p l e R s m args below meth c H locs cells slots Q (F0 m pc ls (.long y :: rest))) : W p l e R s m args below meth c H locs cells slots Q (F0 m pc ls (.long x :: rest)) := by
  rw [h]; exact kk
end ZR
end
section
/-! Calls over the world as a function, and branches over natural numbers. -/
def zz_Y1 (y : MethodName) (bytes : ByteArray) (mL : Nat) (rt : Option FieldType) (n : Nat) : Prop := Cond.code y bytes mL rt ∈ zz_tbl ∧ Cond.initialized y.cls ∈ zz_tbl ∧ Cond.instanceMethod y ∈ zz_tbl ∧ Cond.selects y.cls y y ∈ zz_tbl ∧ (y.cls ≠ "java/lang/invoke/MethodHandle" ∧ y.cls ≠ "java/lang/invoke/VarHandle" ∧ (parseMethodDescriptor y.desc).map (fun d => d.parameters.length) = some n)
def zz_Y0 (y : MethodName) (bytes : ByteArray) (mL : Nat) (rt : Option FieldType) (n : Nat) : Prop := Cond.code y bytes mL rt ∈ zz_tbl ∧ Cond.initialized y.cls ∈ zz_tbl ∧ Cond.static y ∈ zz_tbl ∧ (y.cls ≠ "java/lang/invoke/MethodHandle" ∧ y.cls ≠ "java/lang/invoke/VarHandle" ∧ (parseMethodDescriptor y.desc).map (fun d => d.parameters.length) = some n)
theorem zz_good {y : MethodName} {bytes : ByteArray} {mL : Nat} {rt : Option FieldType} (h : Cond.code y bytes mL rt ∈ zz_tbl) : GoodIn zz_tbl (Cond.code y bytes mL rt :: zz_tbl) := by
  have hg : ∀ w ∈ zz_tbl, w ∈ zz_tbl ∧ ((w.onTables && w.keeps) = true ∨ ∃ ty, w = .arrayClass ty) := fun w hw => ⟨hw, good_of_word (List.mem_filter.mp hw).2⟩
  intro w hw
  cases List.mem_cons.mp hw with
  | inl e => rw [e]; exact hg _ h
  | inr e => exact hg _ e
section ZC
variable {p : Program} {l : Launch} {e : Env} {R : Room} {s : State} {m : MethodId} {args : Array Value} {below : List Frame} {meth : Method} {c : Code} {H : Heap} {locs : List Loc} {cells slots : Nat} {Q : State → Prop}
variable {cc bytes : ByteArray} {maxL mL n index ci : Nat} {ret rt : Option FieldType} {own : String} {pc : Nat} {ls : Array Slot} {rest st0 As : List Value} {G : zz_G} {S : zz_S} {y : MethodName} {rm : Room} {Qc : Array Value → State → Outcome → State → Prop} {T : u_T} {N : Nat} {fs : List Value}
theorem zz_rV (hC : zz_C p s m args meth c cc maxL ret own) (hK : zz_K G s s.heap) (hZ : zz_Z G S s.heap H locs) (c0 : Nat) (hM : Met l y (Cond.code y bytes mL rt :: zz_tbl) rm (zz_Pc (.ref (zz_ad G c0) :: As) G S) Qc 0 0 (zz_A G)) (hY : zz_Y1 y bytes mL rt n) (hc0 : c0 < zz_n G) (he : zz_y G c0 (S.1 c0) (S.2 c0) = .inr (ci, fs)) (hc : (zz_cl G)[ci]? = some (y.cls, T, N)) (wl : Cond.methodLink own index y ∈ zz_tbl) (hrm : rm.cells = 0 ∧ rm.slots = 0 ∧ rm.frames + 1 ≤ R.frames ∧ 8 + (mL + 11) + rm.locals ≤ R.locals) (hn : As.length = n) (hsz : ls.size = maxL) (hst : st0 = As.reverse ++ .ref (zz_ad G c0) :: rest) (hW : (rest.map fun v => v.category).sum ≤ 8) (hdg : decode cc pc = .ok (.invokevirtual index, 3)) (hcs : cells ≤ R.cells ∧ slots ≤ R.slots) : va_Run p l e R s m args below meth c H locs cells slots 0 0 (F0 m pc ls st0) rest (Qc (Value.ref (zz_ad G c0) :: As).toArray) (zz_A G) :=
  va_runV (Ts := zz_tbl) (own := own) (C := y.cls) (cc := cc) (nL := maxL) ⟨hC.1, hC.2.1, hC.2.2.1, hC.2.2.2.1, hC.2.2.2.2.1⟩ hM ⟨callB_of n hC.2.2.2.2.1 (zz_good hY.1) rfl hrm.1 hrm.2.1 (hC.2.2.2.2.1 _ hY.2.1) (hC.2.2.2.2.1 _ wl) hY.2.2.2.2 hrm.2.2, hC.2.2.2.2.1 _ hY.2.2.1, hC.2.2.2.2.1 _ hY.2.2.2.1⟩ ⟨zz_blind, va_recv hK.1 hZ.1 hc (zz_W_at hc0 he), fun U hU hW => ⟨rfl, zz_here hK hZ hU hW⟩⟩ rfl hn hsz hst (lv_room hW) hdg hcs
theorem zz_rVN {host : String} (hC : zz_C p s m args meth c cc maxL ret own) (hK : zz_K G s s.heap) (hZ : zz_Z G S s.heap H locs) (c0 : Nat) (hM : Met l y (Cond.code y bytes mL rt :: zz_tbl) rm (zz_Pc (.ref (zz_ad G c0) :: As) G S) Qc 0 0 (zz_A G)) (hY : zz_Y1 y bytes mL rt n) (hc0 : c0 < zz_n G) (he : zz_y G c0 (S.1 c0) (S.2 c0) = .inr (ci, fs)) (hc : (zz_cl G)[ci]? = some (y.cls, T, N)) (wl : Cond.methodLinkNest own index y host ∈ lw_tbl) (hrm : rm.cells = 0 ∧ rm.slots = 0 ∧ rm.frames + 1 ≤ R.frames ∧ 8 + (mL + 11) + rm.locals ≤ R.locals) (hn : As.length = n) (hsz : ls.size = maxL) (hst : st0 = As.reverse ++ .ref (zz_ad G c0) :: rest) (hW : (rest.map fun v => v.category).sum ≤ 8) (hdg : decode cc pc = .ok (.invokevirtual index, 3)) (hcs : cells ≤ R.cells ∧ slots ≤ R.slots) : va_Run p l e R s m args below meth c H locs cells slots 0 0 (F0 m pc ls st0) rest (Qc (Value.ref (zz_ad G c0) :: As).toArray) (zz_A G) :=
  va_runVN (Ts := zz_tbl) (own := own) (C := y.cls) (cc := cc) (nL := maxL) ⟨hC.1, hC.2.1, hC.2.2.1, hC.2.2.2.1, hC.2.2.2.2.1⟩ hM ⟨va_cnB n hC.2.2.2.2.1 (zz_good hY.1) rfl hrm.1 hrm.2.1 (hK.2.2.2 _ wl rfl) (hC.2.2.2.2.1 _ hY.2.1) hY.2.2.2.2 hrm.2.2, hC.2.2.2.2.1 _ hY.2.2.1, hC.2.2.2.2.1 _ hY.2.2.2.1⟩ ⟨zz_blind, va_recv hK.1 hZ.1 hc (zz_W_at hc0 he), fun U hU hW => ⟨rfl, zz_here hK hZ hU hW⟩⟩ rfl hn hsz hst (lv_room hW) hdg hcs
theorem zz_rS (hC : zz_C p s m args meth c cc maxL ret own) (hK : zz_K G s s.heap) (hZ : zz_Z G S s.heap H locs) (hM : Met l y (Cond.code y bytes mL rt :: zz_tbl) rm (zz_Pc As G S) Qc 0 0 (zz_A G)) (hY : zz_Y0 y bytes mL rt n) (wl : Cond.methodLink own index y ∈ zz_tbl) (hrm : rm.cells = 0 ∧ rm.slots = 0 ∧ rm.frames + 1 ≤ R.frames ∧ 8 + (mL + 11) + rm.locals ≤ R.locals) (hn : As.length = n) (hsz : ls.size = maxL) (hst : st0 = As.reverse ++ rest) (hW : (rest.map fun v => v.category).sum ≤ 8) (hdg : decode cc pc = .ok (.invokestatic index, 3)) (hcs : cells ≤ R.cells ∧ slots ≤ R.slots) : va_Run p l e R s m args below meth c H locs cells slots 0 0 (F0 m pc ls st0) rest (Qc As.toArray) (zz_A G) :=
  va_runS (Ts := zz_tbl) (own := own) (cc := cc) (nL := maxL) ⟨hC.1, hC.2.1, hC.2.2.1, hC.2.2.2.1, hC.2.2.2.2.1⟩ hM ⟨callB_of n hC.2.2.2.2.1 (zz_good hY.1) rfl hrm.1 hrm.2.1 (hC.2.2.2.2.1 _ hY.2.1) (hC.2.2.2.2.1 _ wl) hY.2.2.2 hrm.2.2, hC.2.2.2.2.1 _ hY.2.2.1⟩ ⟨zz_blind, fun U hU hW => ⟨rfl, zz_here hK hZ hU hW⟩⟩ rfl hn hsz hst (lv_room hW) hdg hcs
theorem zz_rSN {host : String} (hC : zz_C p s m args meth c cc maxL ret own) (hK : zz_K G s s.heap) (hZ : zz_Z G S s.heap H locs) (hM : Met l y (Cond.code y bytes mL rt :: zz_tbl) rm (zz_Pc As G S) Qc 0 0 (zz_A G)) (hY : zz_Y0 y bytes mL rt n) (wl : Cond.methodLinkNest own index y host ∈ lw_tbl) (hrm : rm.cells = 0 ∧ rm.slots = 0 ∧ rm.frames + 1 ≤ R.frames ∧ 8 + (mL + 11) + rm.locals ≤ R.locals) (hn : As.length = n) (hsz : ls.size = maxL) (hst : st0 = As.reverse ++ rest) (hW : (rest.map fun v => v.category).sum ≤ 8) (hdg : decode cc pc = .ok (.invokestatic index, 3)) (hcs : cells ≤ R.cells ∧ slots ≤ R.slots) : va_Run p l e R s m args below meth c H locs cells slots 0 0 (F0 m pc ls st0) rest (Qc As.toArray) (zz_A G) :=
  va_runSN (Ts := zz_tbl) (own := own) (cc := cc) (nL := maxL) ⟨hC.1, hC.2.1, hC.2.2.1, hC.2.2.2.1, hC.2.2.2.2.1⟩ hM ⟨va_cnB n hC.2.2.2.2.1 (zz_good hY.1) rfl hrm.1 hrm.2.1 (hK.2.2.2 _ wl rfl) (hC.2.2.2.2.1 _ hY.2.1) hY.2.2.2 hrm.2.2, hC.2.2.2.2.1 _ hY.2.2.1, trivial⟩ ⟨zz_blind, fun U hU hW => ⟨rfl, zz_here hK hZ hU hW⟩⟩ rfl hn hsz hst (lv_room hW) hdg hcs
theorem zz_ci {post : Int32 → zz_S → Prop} {a : Array Value} (hr : va_Run p l e R s m args below meth c H locs cells slots 0 0 (F0 m pc ls st0) rest (va_Qi post (zz_P G) (zz_A G) a) (zz_A G)) (hZ : zz_Z G S s.heap H locs) (kk : ∀ (r : Int32) (S1 : zz_S) (H1 : Heap) (locs1 : List Loc), post r S1 → zz_Z G S1 s.heap H1 locs1 → W p l e R s m args below meth c H1 locs1 cells slots Q (F0 m (pc + 3) ls (.int r :: rest))) : W p l e R s m args below meth c H locs cells slots Q (F0 m pc ls st0) :=
  va_calli hr hZ.2.2 (fun q _ h => h) (fun q h => h) (fun r u t H1 locs1 ht hvm hp hB hz1 hk1 hS => kk r u H1 locs1 hp ⟨by rw [← ht]; exact hB.1, hB.2.1, hS⟩)
theorem zz_clg {post : Int64 → zz_S → Prop} {a : Array Value} (hr : va_Run p l e R s m args below meth c H locs cells slots 0 0 (F0 m pc ls st0) rest (va_Ql post (zz_P G) (zz_A G) a) (zz_A G)) (hZ : zz_Z G S s.heap H locs) (kk : ∀ (r : Int64) (S1 : zz_S) (H1 : Heap) (locs1 : List Loc), post r S1 → zz_Z G S1 s.heap H1 locs1 → W p l e R s m args below meth c H1 locs1 cells slots Q (F0 m (pc + 3) ls (.long r :: rest))) : W p l e R s m args below meth c H locs cells slots Q (F0 m pc ls st0) :=
  va_calll hr hZ.2.2 (fun q _ h => h) (fun q h => h) (fun r u t H1 locs1 ht hvm hp hB hz1 hk1 hS => kk r u H1 locs1 hp ⟨by rw [← ht]; exact hB.1, hB.2.1, hS⟩)
theorem zz_cv {post : zz_S → Prop} {a : Array Value} (hr : va_Run p l e R s m args below meth c H locs cells slots 0 0 (F0 m pc ls st0) rest (va_Qv post (zz_P G) (zz_A G) a) (zz_A G)) (hZ : zz_Z G S s.heap H locs) (kk : ∀ (S1 : zz_S) (H1 : Heap) (locs1 : List Loc), post S1 → zz_Z G S1 s.heap H1 locs1 → W p l e R s m args below meth c H1 locs1 cells slots Q (F0 m (pc + 3) ls rest)) : W p l e R s m args below meth c H locs cells slots Q (F0 m pc ls st0) :=
  va_callv hr hZ.2.2 (fun q _ h => h) (fun q h => h) (fun u t H1 locs1 ht hvm hp hB hz1 hk1 hS => kk u H1 locs1 hp ⟨by rw [← ht]; exact hB.1, hB.2.1, hS⟩)
theorem zz_cr {post : Nat → zz_S → Prop} {a : Array Value} (hr : va_Run p l e R s m args below meth c H locs cells slots 0 0 (F0 m pc ls st0) rest (va_Qr (fun u : Nat × zz_S => post u.1 u.2) (fun u a t => a = zz_ad G u.1 ∧ zz_P G u.2 t) (zz_A G) a) (zz_A G)) (hZ : zz_Z G S s.heap H locs) (kk : ∀ (q : Nat) (S1 : zz_S) (H1 : Heap) (locs1 : List Loc), post q S1 → zz_Z G S1 s.heap H1 locs1 → W p l e R s m args below meth c H1 locs1 cells slots Q (F0 m (pc + 3) ls (.ref (zz_ad G q) :: rest))) : W p l e R s m args below meth c H locs cells slots Q (F0 m pc ls st0) :=
  va_callr hr hZ.2.2 (fun q _ h => h) (fun q h => h) (fun u ra t H1 locs1 ht hvm hp hB hz1 hk1 hS => by
    obtain ⟨rfl, hB⟩ := hB
    exact kk u.1 u.2 H1 locs1 hp ⟨by rw [← ht]; exact hB.1, hB.2.1, hS⟩)
variable {a b : Nat} {off : Int} {tgt : Nat}
theorem zz_jeq (hC : zz_C p s m args meth c cc maxL ret own) (hdg : decode cc pc = .ok (.if_icmp .eq off, 3)) (ht : (pc : Int) + off = (tgt : Int)) (ha : a < 2 ^ 31) (hb : b < 2 ^ 31) (kt : a = b → W p l e R s m args below meth c H locs cells slots Q (F0 m tgt ls rest)) (kf : a ≠ b → W p l e R s m args below meth c H locs cells slots Q (F0 m (pc + 3) ls rest)) : W p l e R s m args below meth c H locs cells slots Q (F0 m pc ls (.int (nI b) :: .int (nI a) :: rest)) :=
  lv_icmp_eq hC.1 hC.2.1 hdg ht (fun h => kt ((nI_eq ha hb).mp h)) (fun h => kf (fun h2 => h ((nI_eq ha hb).mpr h2)))
theorem zz_jne (hC : zz_C p s m args meth c cc maxL ret own) (hdg : decode cc pc = .ok (.if_icmp .ne off, 3)) (ht : (pc : Int) + off = (tgt : Int)) (ha : a < 2 ^ 31) (hb : b < 2 ^ 31) (kt : a ≠ b → W p l e R s m args below meth c H locs cells slots Q (F0 m tgt ls rest)) (kf : a = b → W p l e R s m args below meth c H locs cells slots Q (F0 m (pc + 3) ls rest)) : W p l e R s m args below meth c H locs cells slots Q (F0 m pc ls (.int (nI b) :: .int (nI a) :: rest)) :=
  lv_icmp_ne hC.1 hC.2.1 hdg ht (fun h => kt (fun h2 => h ((nI_eq ha hb).mpr h2))) (fun h => kf ((nI_eq ha hb).mp h))
theorem zz_jlt (hC : zz_C p s m args meth c cc maxL ret own) (hdg : decode cc pc = .ok (.if_icmp .lt off, 3)) (ht : (pc : Int) + off = (tgt : Int)) (ha : a < 2 ^ 31) (hb : b < 2 ^ 31) (kt : a < b → W p l e R s m args below meth c H locs cells slots Q (F0 m tgt ls rest)) (kf : b ≤ a → W p l e R s m args below meth c H locs cells slots Q (F0 m (pc + 3) ls rest)) : W p l e R s m args below meth c H locs cells slots Q (F0 m pc ls (.int (nI b) :: .int (nI a) :: rest)) :=
  lv_icmp_lt hC.1 hC.2.1 hdg ht (fun h => kt ((nI_ltI ha hb).mp h)) (fun h => kf (Nat.le_of_not_lt (fun h2 => h ((nI_ltI ha hb).mpr h2))))
theorem zz_jge (hC : zz_C p s m args meth c cc maxL ret own) (hdg : decode cc pc = .ok (.if_icmp .ge off, 3)) (ht : (pc : Int) + off = (tgt : Int)) (ha : a < 2 ^ 31) (hb : b < 2 ^ 31) (kt : b ≤ a → W p l e R s m args below meth c H locs cells slots Q (F0 m tgt ls rest)) (kf : a < b → W p l e R s m args below meth c H locs cells slots Q (F0 m (pc + 3) ls rest)) : W p l e R s m args below meth c H locs cells slots Q (F0 m pc ls (.int (nI b) :: .int (nI a) :: rest)) :=
  lv_icmp_ge hC.1 hC.2.1 hdg ht (fun h => kt ((nI_leI hb ha).mp h)) (fun h => kf (Nat.lt_of_not_le (fun h2 => h ((nI_leI hb ha).mpr h2))))
theorem zz_jgt (hC : zz_C p s m args meth c cc maxL ret own) (hdg : decode cc pc = .ok (.if_icmp .gt off, 3)) (ht : (pc : Int) + off = (tgt : Int)) (ha : a < 2 ^ 31) (hb : b < 2 ^ 31) (kt : b < a → W p l e R s m args below meth c H locs cells slots Q (F0 m tgt ls rest)) (kf : a ≤ b → W p l e R s m args below meth c H locs cells slots Q (F0 m (pc + 3) ls rest)) : W p l e R s m args below meth c H locs cells slots Q (F0 m pc ls (.int (nI b) :: .int (nI a) :: rest)) :=
  lv_icmp_gt hC.1 hC.2.1 hdg ht (fun h => kt ((nI_ltI hb ha).mp h)) (fun h => kf (Nat.le_of_not_lt (fun h2 => h ((nI_ltI hb ha).mpr h2))))
theorem zz_jle (hC : zz_C p s m args meth c cc maxL ret own) (hdg : decode cc pc = .ok (.if_icmp .le off, 3)) (ht : (pc : Int) + off = (tgt : Int)) (ha : a < 2 ^ 31) (hb : b < 2 ^ 31) (kt : a ≤ b → W p l e R s m args below meth c H locs cells slots Q (F0 m tgt ls rest)) (kf : b < a → W p l e R s m args below meth c H locs cells slots Q (F0 m (pc + 3) ls rest)) : W p l e R s m args below meth c H locs cells slots Q (F0 m pc ls (.int (nI b) :: .int (nI a) :: rest)) :=
  lv_icmp_le hC.1 hC.2.1 hdg ht (fun h => kt ((nI_leI ha hb).mp h)) (fun h => kf (Nat.lt_of_not_le (fun h2 => h ((nI_leI ha hb).mpr h2))))
theorem zz_ieq (hC : zz_C p s m args meth c cc maxL ret own) (hdg : decode cc pc = .ok (.ifCond .eq off, 3)) (ht : (pc : Int) + off = (tgt : Int)) (ha : a < 2 ^ 31) (kt : a = 0 → W p l e R s m args below meth c H locs cells slots Q (F0 m tgt ls rest)) (kf : a ≠ 0 → W p l e R s m args below meth c H locs cells slots Q (F0 m (pc + 3) ls rest)) : W p l e R s m args below meth c H locs cells slots Q (F0 m pc ls (.int (nI a) :: rest)) :=
  lv_if_eq hC.1 hC.2.1 hdg ht (fun h => kt ((nI_eq ha (by decide)).mp (h.trans nI_0.symm))) (fun h => kf (fun h2 => h (by rw [h2]; exact nI_0)))
theorem zz_ine (hC : zz_C p s m args meth c cc maxL ret own) (hdg : decode cc pc = .ok (.ifCond .ne off, 3)) (ht : (pc : Int) + off = (tgt : Int)) (ha : a < 2 ^ 31) (kt : a ≠ 0 → W p l e R s m args below meth c H locs cells slots Q (F0 m tgt ls rest)) (kf : a = 0 → W p l e R s m args below meth c H locs cells slots Q (F0 m (pc + 3) ls rest)) : W p l e R s m args below meth c H locs cells slots Q (F0 m pc ls (.int (nI a) :: rest)) :=
  lv_if_ne hC.1 hC.2.1 hdg ht (fun h => kt (fun h2 => h (by rw [h2]; exact nI_0))) (fun h => kf ((nI_eq ha (by decide)).mp (h.trans nI_0.symm)))
theorem zz_ile (hC : zz_C p s m args meth c cc maxL ret own) (hdg : decode cc pc = .ok (.ifCond .le off, 3)) (ht : (pc : Int) + off = (tgt : Int)) (ha : a < 2 ^ 31) (kt : a = 0 → W p l e R s m args below meth c H locs cells slots Q (F0 m tgt ls rest)) (kf : a ≠ 0 → W p l e R s m args below meth c H locs cells slots Q (F0 m (pc + 3) ls rest)) : W p l e R s m args below meth c H locs cells slots Q (F0 m pc ls (.int (nI a) :: rest)) :=
  lv_if_le hC.1 hC.2.1 hdg ht (fun h => kt (Nat.le_zero.mp ((nI_leI ha (b := 0) (by decide)).mp (by rw [nI_0]; exact h)))) (fun h => kf (fun h2 => h (by rw [h2, nI_0]; decide)))
theorem zz_igt (hC : zz_C p s m args meth c cc maxL ret own) (hdg : decode cc pc = .ok (.ifCond .gt off, 3)) (ht : (pc : Int) + off = (tgt : Int)) (ha : a < 2 ^ 31) (kt : a ≠ 0 → W p l e R s m args below meth c H locs cells slots Q (F0 m tgt ls rest)) (kf : a = 0 → W p l e R s m args below meth c H locs cells slots Q (F0 m (pc + 3) ls rest)) : W p l e R s m args below meth c H locs cells slots Q (F0 m pc ls (.int (nI a) :: rest)) :=
  lv_if_gt hC.1 hC.2.1 hdg ht (fun h => kt (fun h2 => by rw [h2, nI_0] at h; exact absurd h (by decide))) (fun h => kf (Nat.eq_zero_of_not_pos (fun h2 => h (by rw [← nI_0]; exact (nI_ltI (by decide) ha).mpr h2))))
theorem zz_ilt (hC : zz_C p s m args meth c cc maxL ret own) (hdg : decode cc pc = .ok (.ifCond .lt off, 3)) (ht : (pc : Int) + off = (tgt : Int)) (ha : a < 2 ^ 31) (kf : W p l e R s m args below meth c H locs cells slots Q (F0 m (pc + 3) ls rest)) : W p l e R s m args below meth c H locs cells slots Q (F0 m pc ls (.int (nI a) :: rest)) :=
  lv_if_lt hC.1 hC.2.1 hdg ht (fun h => absurd h (nI_pos ha)) (fun _ => kf)
theorem zz_ige (hC : zz_C p s m args meth c cc maxL ret own) (hdg : decode cc pc = .ok (.ifCond .ge off, 3)) (ht : (pc : Int) + off = (tgt : Int)) (ha : a < 2 ^ 31) (kt : W p l e R s m args below meth c H locs cells slots Q (F0 m tgt ls rest)) : W p l e R s m args below meth c H locs cells slots Q (F0 m pc ls (.int (nI a) :: rest)) :=
  lv_if_ge hC.1 hC.2.1 hdg ht (fun _ => kt) (fun h => absurd (nI_pos' ha) h)
end ZC
section ZJ
variable {p : Program} {l : Launch} {e : Env} {R : Room} {s : State} {m : MethodId} {args : Array Value} {below : List Frame} {meth : Method} {c : Code} {H : Heap} {locs : List Loc} {cells slots : Nat} {Q : State → Prop} {cc : ByteArray} {maxL : Nat} {ret : Option FieldType} {own : String} {pc : Nat} {ls : Array Slot} {rest : List Value} {off : Int} {tgt : Nat} {x y : Int32}
theorem zz_rjeq (hC : zz_C p s m args meth c cc maxL ret own) (hdg : decode cc pc = .ok (.if_icmp .eq off, 3)) (ht : (pc : Int) + off = (tgt : Int)) (kt : x.toInt = y.toInt → W p l e R s m args below meth c H locs cells slots Q (F0 m tgt ls rest)) (kf : x.toInt ≠ y.toInt → W p l e R s m args below meth c H locs cells slots Q (F0 m (pc + 3) ls rest)) : W p l e R s m args below meth c H locs cells slots Q (F0 m pc ls (.int y :: .int x :: rest)) :=
  lv_icmp_eq hC.1 hC.2.1 hdg ht (fun h => kt (congrArg Int32.toInt h)) (fun h => kf (fun z => h (Int32.toInt_inj.mp z)))
theorem zz_rjne (hC : zz_C p s m args meth c cc maxL ret own) (hdg : decode cc pc = .ok (.if_icmp .ne off, 3)) (ht : (pc : Int) + off = (tgt : Int)) (kt : x.toInt ≠ y.toInt → W p l e R s m args below meth c H locs cells slots Q (F0 m tgt ls rest)) (kf : x.toInt = y.toInt → W p l e R s m args below meth c H locs cells slots Q (F0 m (pc + 3) ls rest)) : W p l e R s m args below meth c H locs cells slots Q (F0 m pc ls (.int y :: .int x :: rest)) :=
  lv_icmp_ne hC.1 hC.2.1 hdg ht (fun h => kt (fun z => h (Int32.toInt_inj.mp z))) (fun h => kf (congrArg Int32.toInt h))
theorem zz_rjlt (hC : zz_C p s m args meth c cc maxL ret own) (hdg : decode cc pc = .ok (.if_icmp .lt off, 3)) (ht : (pc : Int) + off = (tgt : Int)) (kt : x.toInt < y.toInt → W p l e R s m args below meth c H locs cells slots Q (F0 m tgt ls rest)) (kf : y.toInt ≤ x.toInt → W p l e R s m args below meth c H locs cells slots Q (F0 m (pc + 3) ls rest)) : W p l e R s m args below meth c H locs cells slots Q (F0 m pc ls (.int y :: .int x :: rest)) :=
  lv_icmp_lt hC.1 hC.2.1 hdg ht (fun h => kt (Int32.lt_iff_toInt_lt.mp h)) (fun h => kf (Int.not_lt.mp (fun z => h (Int32.lt_iff_toInt_lt.mpr z))))
theorem zz_rjge (hC : zz_C p s m args meth c cc maxL ret own) (hdg : decode cc pc = .ok (.if_icmp .ge off, 3)) (ht : (pc : Int) + off = (tgt : Int)) (kt : y.toInt ≤ x.toInt → W p l e R s m args below meth c H locs cells slots Q (F0 m tgt ls rest)) (kf : x.toInt < y.toInt → W p l e R s m args below meth c H locs cells slots Q (F0 m (pc + 3) ls rest)) : W p l e R s m args below meth c H locs cells slots Q (F0 m pc ls (.int y :: .int x :: rest)) :=
  lv_icmp_ge hC.1 hC.2.1 hdg ht (fun h => kt (Int32.le_iff_toInt_le.mp h)) (fun h => kf (Int.not_le.mp (fun z => h (Int32.le_iff_toInt_le.mpr z))))
theorem zz_rjgt (hC : zz_C p s m args meth c cc maxL ret own) (hdg : decode cc pc = .ok (.if_icmp .gt off, 3)) (ht : (pc : Int) + off = (tgt : Int)) (kt : y.toInt < x.toInt → W p l e R s m args below meth c H locs cells slots Q (F0 m tgt ls rest)) (kf : x.toInt ≤ y.toInt → W p l e R s m args below meth c H locs cells slots Q (F0 m (pc + 3) ls rest)) : W p l e R s m args below meth c H locs cells slots Q (F0 m pc ls (.int y :: .int x :: rest)) :=
  lv_icmp_gt hC.1 hC.2.1 hdg ht (fun h => kt (Int32.lt_iff_toInt_lt.mp h)) (fun h => kf (Int.not_lt.mp (fun z => h (Int32.lt_iff_toInt_lt.mpr z))))
theorem zz_rjle (hC : zz_C p s m args meth c cc maxL ret own) (hdg : decode cc pc = .ok (.if_icmp .le off, 3)) (ht : (pc : Int) + off = (tgt : Int)) (kt : x.toInt ≤ y.toInt → W p l e R s m args below meth c H locs cells slots Q (F0 m tgt ls rest)) (kf : y.toInt < x.toInt → W p l e R s m args below meth c H locs cells slots Q (F0 m (pc + 3) ls rest)) : W p l e R s m args below meth c H locs cells slots Q (F0 m pc ls (.int y :: .int x :: rest)) :=
  lv_icmp_le hC.1 hC.2.1 hdg ht (fun h => kt (Int32.le_iff_toInt_le.mp h)) (fun h => kf (Int.not_le.mp (fun z => h (Int32.le_iff_toInt_le.mpr z))))
theorem zz_rieq (hC : zz_C p s m args meth c cc maxL ret own) (hdg : decode cc pc = .ok (.ifCond .eq off, 3)) (ht : (pc : Int) + off = (tgt : Int)) (kt : x.toInt = 0 → W p l e R s m args below meth c H locs cells slots Q (F0 m tgt ls rest)) (kf : x.toInt ≠ 0 → W p l e R s m args below meth c H locs cells slots Q (F0 m (pc + 3) ls rest)) : W p l e R s m args below meth c H locs cells slots Q (F0 m pc ls (.int x :: rest)) :=
  lv_if_eq hC.1 hC.2.1 hdg ht (fun h => kt (congrArg Int32.toInt h)) (fun h => kf (fun z => h (Int32.toInt_inj.mp z)))
theorem zz_rine (hC : zz_C p s m args meth c cc maxL ret own) (hdg : decode cc pc = .ok (.ifCond .ne off, 3)) (ht : (pc : Int) + off = (tgt : Int)) (kt : x.toInt ≠ 0 → W p l e R s m args below meth c H locs cells slots Q (F0 m tgt ls rest)) (kf : x.toInt = 0 → W p l e R s m args below meth c H locs cells slots Q (F0 m (pc + 3) ls rest)) : W p l e R s m args below meth c H locs cells slots Q (F0 m pc ls (.int x :: rest)) :=
  lv_if_ne hC.1 hC.2.1 hdg ht (fun h => kt (fun z => h (Int32.toInt_inj.mp z))) (fun h => kf (congrArg Int32.toInt h))
theorem zz_rilt (hC : zz_C p s m args meth c cc maxL ret own) (hdg : decode cc pc = .ok (.ifCond .lt off, 3)) (ht : (pc : Int) + off = (tgt : Int)) (kt : x.toInt < 0 → W p l e R s m args below meth c H locs cells slots Q (F0 m tgt ls rest)) (kf : 0 ≤ x.toInt → W p l e R s m args below meth c H locs cells slots Q (F0 m (pc + 3) ls rest)) : W p l e R s m args below meth c H locs cells slots Q (F0 m pc ls (.int x :: rest)) :=
  lv_if_lt hC.1 hC.2.1 hdg ht (fun h => kt (Int32.lt_iff_toInt_lt.mp h)) (fun h => kf (Int.not_lt.mp (fun z => h (Int32.lt_iff_toInt_lt.mpr z))))
theorem zz_rige (hC : zz_C p s m args meth c cc maxL ret own) (hdg : decode cc pc = .ok (.ifCond .ge off, 3)) (ht : (pc : Int) + off = (tgt : Int)) (kt : 0 ≤ x.toInt → W p l e R s m args below meth c H locs cells slots Q (F0 m tgt ls rest)) (kf : x.toInt < 0 → W p l e R s m args below meth c H locs cells slots Q (F0 m (pc + 3) ls rest)) : W p l e R s m args below meth c H locs cells slots Q (F0 m pc ls (.int x :: rest)) :=
  lv_if_ge hC.1 hC.2.1 hdg ht (fun h => kt (Int32.le_iff_toInt_le.mp h)) (fun h => kf (Int.not_le.mp (fun z => h (Int32.le_iff_toInt_le.mpr z))))
theorem zz_rigt (hC : zz_C p s m args meth c cc maxL ret own) (hdg : decode cc pc = .ok (.ifCond .gt off, 3)) (ht : (pc : Int) + off = (tgt : Int)) (kt : 0 < x.toInt → W p l e R s m args below meth c H locs cells slots Q (F0 m tgt ls rest)) (kf : x.toInt ≤ 0 → W p l e R s m args below meth c H locs cells slots Q (F0 m (pc + 3) ls rest)) : W p l e R s m args below meth c H locs cells slots Q (F0 m pc ls (.int x :: rest)) :=
  lv_if_gt hC.1 hC.2.1 hdg ht (fun h => kt (Int32.lt_iff_toInt_lt.mp h)) (fun h => kf (Int.not_lt.mp (fun z => h (Int32.lt_iff_toInt_lt.mpr z))))
theorem zz_rile (hC : zz_C p s m args meth c cc maxL ret own) (hdg : decode cc pc = .ok (.ifCond .le off, 3)) (ht : (pc : Int) + off = (tgt : Int)) (kt : x.toInt ≤ 0 → W p l e R s m args below meth c H locs cells slots Q (F0 m tgt ls rest)) (kf : 0 < x.toInt → W p l e R s m args below meth c H locs cells slots Q (F0 m (pc + 3) ls rest)) : W p l e R s m args below meth c H locs cells slots Q (F0 m pc ls (.int x :: rest)) :=
  lv_if_le hC.1 hC.2.1 hdg ht (fun h => kt (Int32.le_iff_toInt_le.mp h)) (fun h => kf (Int.not_le.mp (fun z => h (Int32.le_iff_toInt_le.mpr z))))
theorem zz_m1 {a : Nat} (ha : a < 2 ^ 31) : (nI a - 1).toInt = (a : Int) - 1 := by
  rw [Int32.toInt_sub, nI_toInt ha, show (1 : Int32).toInt = 1 from rfl]
  exact Jvm.Kit.bmod32 (by omega) (by omega)
theorem zz_plt {a : Nat} (hC : zz_C p s m args meth c cc maxL ret own) (hdg : decode cc pc = .ok (.ifCond .lt off, 3)) (ht : (pc : Int) + off = (tgt : Int)) (ha : a < 2 ^ 31) (kt : a = 0 → W p l e R s m args below meth c H locs cells slots Q (F0 m tgt ls rest)) (kf : a ≠ 0 → W p l e R s m args below meth c H locs cells slots Q (F0 m (pc + 3) ls rest)) : W p l e R s m args below meth c H locs cells slots Q (F0 m pc ls (.int (nI a - 1) :: rest)) :=
  zz_rilt hC hdg ht (fun h => kt (by rw [zz_m1 ha] at h; omega)) (fun h => kf (by rw [zz_m1 ha] at h; omega))
theorem zz_dec1 {a : Nat} (h : 1 ≤ a) : nI a + Int32.ofInt (-1) = nI (a - 1) := by
  have e : a = (a - 1) + 1 := by omega
  rw [e]
  exact pk_m1 (a - 1)
theorem zz_prd1 {a : Nat} (h : 1 ≤ a) : nI a - 1 + Int32.ofInt (-1) = nI (a - 1) - 1 := by
  rw [show nI a - 1 = nI (a - 1) from by
    have e : a = (a - 1) + 1 := by omega
    rw [e]
    exact nI_pred (a - 1)]
  rw [Int32.sub_eq_add_neg]
  rfl
theorem zz_prd {a : Nat} (h : a ≠ 0) : nI a - 1 = nI (a - 1) := by
  have e : a = (a - 1) + 1 := by omega
  rw [e]
  exact nI_pred (a - 1)
end ZJ
end
section
/-! The words of the tables, each by its place in lw_tbl. -/
theorem wd_41 : Cond.methodLink "TreeCoverForgeLaw" 9 y_Forge_init ∈ zz_tbl := zz_in (i := 41) (by decide +kernel) rfl
theorem wd_44 : Cond.methodLink "TreeCoverForge" 3 y_Object_init ∈ zz_tbl := zz_in (i := 44) (by decide +kernel) rfl
theorem wd_49 : Cond.methodLinkNest "TreeCoverForge" 11 y_Book_init "TreeCoverForge" ∈ lw_tbl := List.mem_of_getElem? (i := 49) (by decide +kernel)
theorem wd_52 : Cond.methodLink "TreeCoverForge$RuleBook" 3 y_Object_init ∈ zz_tbl := zz_in (i := 52) (by decide +kernel) rfl
theorem wd_55 : Cond.fieldLink "TreeCoverForge$RuleBook" 9 "TreeCoverForge$RuleBook" "kinds" "[I" ∈ zz_tbl := zz_in (i := 55) (by decide +kernel) rfl
theorem wd_56 : Cond.fieldLink "TreeCoverForge$Label" 57 "TreeCoverForge$RuleBook" "kinds" "[I" ∈ zz_tbl := zz_in (i := 56) (by decide +kernel) rfl
theorem wd_57 : Cond.fieldLink "TreeCoverForge$RuleBook" 15 "TreeCoverForge$RuleBook" "ops" "[I" ∈ zz_tbl := zz_in (i := 57) (by decide +kernel) rfl
theorem wd_58 : Cond.fieldLink "TreeCoverForge$Code" 101 "TreeCoverForge$RuleBook" "ops" "[I" ∈ zz_tbl := zz_in (i := 58) (by decide +kernel) rfl
theorem wd_59 : Cond.fieldLink "TreeCoverForge$RuleBook" 18 "TreeCoverForge$RuleBook" "firsts" "[I" ∈ zz_tbl := zz_in (i := 59) (by decide +kernel) rfl
theorem wd_60 : Cond.fieldLink "TreeCoverForge$Label" 39 "TreeCoverForge$RuleBook" "firsts" "[I" ∈ zz_tbl := zz_in (i := 60) (by decide +kernel) rfl
theorem wd_61 : Cond.fieldLink "TreeCoverForge$Code" 88 "TreeCoverForge$RuleBook" "firsts" "[I" ∈ zz_tbl := zz_in (i := 61) (by decide +kernel) rfl
theorem wd_62 : Cond.fieldLink "TreeCoverForge$RuleBook" 21 "TreeCoverForge$RuleBook" "seconds" "[I" ∈ zz_tbl := zz_in (i := 62) (by decide +kernel) rfl
theorem wd_63 : Cond.fieldLink "TreeCoverForge$Label" 42 "TreeCoverForge$RuleBook" "seconds" "[I" ∈ zz_tbl := zz_in (i := 63) (by decide +kernel) rfl
theorem wd_64 : Cond.fieldLink "TreeCoverForge$Code" 91 "TreeCoverForge$RuleBook" "seconds" "[I" ∈ zz_tbl := zz_in (i := 64) (by decide +kernel) rfl
theorem wd_65 : Cond.fieldLink "TreeCoverForge$RuleBook" 24 "TreeCoverForge$RuleBook" "costs" "[I" ∈ zz_tbl := zz_in (i := 65) (by decide +kernel) rfl
theorem wd_66 : Cond.fieldLink "TreeCoverForge$Label" 60 "TreeCoverForge$RuleBook" "costs" "[I" ∈ zz_tbl := zz_in (i := 66) (by decide +kernel) rfl
theorem wd_67 : Cond.fieldLink "TreeCoverForge$RuleBook" 29 "TreeCoverForge$RuleBook" "numbersOf" "[[I" ∈ zz_tbl := zz_in (i := 67) (by decide +kernel) rfl
theorem wd_68 : Cond.fieldLink "TreeCoverForge$Label" 35 "TreeCoverForge$RuleBook" "numbersOf" "[[I" ∈ zz_tbl := zz_in (i := 68) (by decide +kernel) rfl
theorem wd_69 : Cond.fieldLink "TreeCoverForge$RuleBook" 32 "TreeCoverForge$RuleBook" "sizeOf" "[I" ∈ zz_tbl := zz_in (i := 69) (by decide +kernel) rfl
theorem wd_70 : Cond.fieldLink "TreeCoverForge$Label" 30 "TreeCoverForge$RuleBook" "sizeOf" "[I" ∈ zz_tbl := zz_in (i := 70) (by decide +kernel) rfl
theorem wd_71 : Cond.fieldLink "TreeCoverForge$RuleBook" 35 "TreeCoverForge$RuleBook" "count" "I" ∈ zz_tbl := zz_in (i := 71) (by decide +kernel) rfl
theorem wd_72 : Cond.fieldLink "TreeCoverForge" 57 "TreeCoverForge$RuleBook" "count" "I" ∈ zz_tbl := zz_in (i := 72) (by decide +kernel) rfl
theorem wd_93 : Cond.methodLink "TreeCoverForge" 18 y_Pile_init ∈ zz_tbl := zz_in (i := 93) (by decide +kernel) rfl
theorem wd_96 : Cond.methodLink "TreeCoverForge$Pile" 3 y_Object_init ∈ zz_tbl := zz_in (i := 96) (by decide +kernel) rfl
theorem wd_100 : Cond.methodLinkNest "TreeCoverForge$Pile" 33 y_Label_init "TreeCoverForge" ∈ lw_tbl := List.mem_of_getElem? (i := 100) (by decide +kernel)
theorem wd_103 : Cond.methodLink "TreeCoverForge$Label" 3 y_Object_init ∈ zz_tbl := zz_in (i := 103) (by decide +kernel) rfl
theorem wd_104 : Cond.fieldLink "TreeCoverForge$Label" 9 "TreeCoverForge$Label" "costs" "[J" ∈ zz_tbl := zz_in (i := 104) (by decide +kernel) rfl
theorem wd_105 : Cond.fieldLink "TreeCoverForge" 115 "TreeCoverForge$Label" "costs" "[J" ∈ zz_tbl := zz_in (i := 105) (by decide +kernel) rfl
theorem wd_106 : Cond.fieldLink "TreeCoverForge$Label" 15 "TreeCoverForge$Label" "choices" "[I" ∈ zz_tbl := zz_in (i := 106) (by decide +kernel) rfl
theorem wd_107 : Cond.fieldLink "TreeCoverForge$Code" 96 "TreeCoverForge$Label" "choices" "[I" ∈ zz_tbl := zz_in (i := 107) (by decide +kernel) rfl
theorem wd_108 : Cond.fieldLink "TreeCoverForge" 123 "TreeCoverForge$Label" "choices" "[I" ∈ zz_tbl := zz_in (i := 108) (by decide +kernel) rfl
theorem wd_115 : Cond.fieldLink "TreeCoverForge$Pile" 9 "TreeCoverForge$Pile" "ops" "[I" ∈ zz_tbl := zz_in (i := 115) (by decide +kernel) rfl
theorem wd_116 : Cond.fieldLink "TreeCoverForge$Code" 80 "TreeCoverForge$Pile" "ops" "[I" ∈ zz_tbl := zz_in (i := 116) (by decide +kernel) rfl
theorem wd_117 : Cond.fieldLink "TreeCoverForge$Pile" 15 "TreeCoverForge$Pile" "numbers" "[I" ∈ zz_tbl := zz_in (i := 117) (by decide +kernel) rfl
theorem wd_118 : Cond.fieldLink "TreeCoverForge$Code" 102 "TreeCoverForge$Pile" "numbers" "[I" ∈ zz_tbl := zz_in (i := 118) (by decide +kernel) rfl
theorem wd_119 : Cond.fieldLink "TreeCoverForge$Pile" 18 "TreeCoverForge$Pile" "sizes" "[I" ∈ zz_tbl := zz_in (i := 119) (by decide +kernel) rfl
theorem wd_120 : Cond.fieldLink "TreeCoverForge$Pile" 21 "TreeCoverForge$Pile" "heights" "[I" ∈ zz_tbl := zz_in (i := 120) (by decide +kernel) rfl
theorem wd_121 : Cond.fieldLink "TreeCoverForge$Pile" 24 "TreeCoverForge$Pile" "results" "[I" ∈ zz_tbl := zz_in (i := 121) (by decide +kernel) rfl
theorem wd_122 : Cond.fieldLink "TreeCoverForge$Pile" 29 "TreeCoverForge$Pile" "labels" "[LTreeCoverForge$Label;" ∈ zz_tbl := zz_in (i := 122) (by decide +kernel) rfl
theorem wd_123 : Cond.fieldLink "TreeCoverForge$Code" 92 "TreeCoverForge$Pile" "labels" "[LTreeCoverForge$Label;" ∈ zz_tbl := zz_in (i := 123) (by decide +kernel) rfl
theorem wd_124 : Cond.fieldLink "TreeCoverForge$Pile" 34 "TreeCoverForge$Pile" "noKid" "LTreeCoverForge$Label;" ∈ zz_tbl := zz_in (i := 124) (by decide +kernel) rfl
theorem wd_125 : Cond.fieldLink "TreeCoverForge$Pile" 42 "TreeCoverForge$Pile" "nodeCount" "I" ∈ zz_tbl := zz_in (i := 125) (by decide +kernel) rfl
theorem wd_126 : Cond.fieldLink "TreeCoverForge$Code" 65 "TreeCoverForge$Pile" "nodeCount" "I" ∈ zz_tbl := zz_in (i := 126) (by decide +kernel) rfl
theorem wd_127 : Cond.fieldLink "TreeCoverForge" 86 "TreeCoverForge$Pile" "nodeCount" "I" ∈ zz_tbl := zz_in (i := 127) (by decide +kernel) rfl
theorem wd_128 : Cond.fieldLink "TreeCoverForge$Pile" 38 "TreeCoverForge$Pile" "treeCount" "I" ∈ zz_tbl := zz_in (i := 128) (by decide +kernel) rfl
theorem wd_129 : Cond.fieldLink "TreeCoverForge" 80 "TreeCoverForge$Pile" "treeCount" "I" ∈ zz_tbl := zz_in (i := 129) (by decide +kernel) rfl
theorem wd_130 : Cond.fieldLink "TreeCoverForge$Pile" 65 "TreeCoverForge$Pile" "labelledCount" "I" ∈ zz_tbl := zz_in (i := 130) (by decide +kernel) rfl
theorem wd_131 : Cond.fieldLink "TreeCoverForge" 152 "TreeCoverForge$Pile" "labelledCount" "I" ∈ zz_tbl := zz_in (i := 131) (by decide +kernel) rfl
theorem wd_155 : Cond.methodLink "TreeCoverForge" 25 y_Table_init ∈ zz_tbl := zz_in (i := 155) (by decide +kernel) rfl
theorem wd_158 : Cond.methodLink "TreeCoverForge$StateTable" 3 y_Object_init ∈ zz_tbl := zz_in (i := 158) (by decide +kernel) rfl
theorem wd_160 : Cond.methodLinkNest "TreeCoverForge$StateTable" 17 y_Label_init "TreeCoverForge" ∈ lw_tbl := List.mem_of_getElem? (i := 160) (by decide +kernel)
theorem wd_161 : Cond.fieldLink "TreeCoverForge$StateTable" 11 "TreeCoverForge$StateTable" "found" "[LTreeCoverForge$Label;" ∈ zz_tbl := zz_in (i := 161) (by decide +kernel) rfl
theorem wd_162 : Cond.fieldLink "TreeCoverForge$StateTable" 18 "TreeCoverForge$StateTable" "noKid" "LTreeCoverForge$Label;" ∈ zz_tbl := zz_in (i := 162) (by decide +kernel) rfl
theorem wd_163 : Cond.fieldLink "TreeCoverForge$StateTable" 26 "TreeCoverForge$StateTable" "foundCount" "I" ∈ zz_tbl := zz_in (i := 163) (by decide +kernel) rfl
theorem wd_164 : Cond.fieldLink "TreeCoverForge$StateTable" 22 "TreeCoverForge$StateTable" "counted" "I" ∈ zz_tbl := zz_in (i := 164) (by decide +kernel) rfl
theorem wd_165 : Cond.fieldLink "TreeCoverForge" 70 "TreeCoverForge$StateTable" "counted" "I" ∈ zz_tbl := zz_in (i := 165) (by decide +kernel) rfl
theorem wd_177 : Cond.methodLinkNest "TreeCoverForge" 32 y_Code_init "TreeCoverForge" ∈ lw_tbl := List.mem_of_getElem? (i := 177) (by decide +kernel)
theorem wd_180 : Cond.methodLink "TreeCoverForge$Code" 3 y_Object_init ∈ zz_tbl := zz_in (i := 180) (by decide +kernel) rfl
theorem wd_181 : Cond.fieldLink "TreeCoverForge$Code" 9 "TreeCoverForge$Code" "rules" "[I" ∈ zz_tbl := zz_in (i := 181) (by decide +kernel) rfl
theorem wd_182 : Cond.fieldLink "TreeCoverForge$Code" 15 "TreeCoverForge$Code" "nodes" "[I" ∈ zz_tbl := zz_in (i := 182) (by decide +kernel) rfl
theorem wd_183 : Cond.fieldLink "TreeCoverForge$Code" 18 "TreeCoverForge$Code" "ops" "[I" ∈ zz_tbl := zz_in (i := 183) (by decide +kernel) rfl
theorem wd_184 : Cond.fieldLink "TreeCoverForge$Code" 21 "TreeCoverForge$Code" "numbers" "[I" ∈ zz_tbl := zz_in (i := 184) (by decide +kernel) rfl
theorem wd_185 : Cond.fieldLink "TreeCoverForge$Code" 24 "TreeCoverForge$Code" "firsts" "[I" ∈ zz_tbl := zz_in (i := 185) (by decide +kernel) rfl
theorem wd_186 : Cond.fieldLink "TreeCoverForge$Code" 27 "TreeCoverForge$Code" "seconds" "[I" ∈ zz_tbl := zz_in (i := 186) (by decide +kernel) rfl
theorem wd_187 : Cond.fieldLink "TreeCoverForge$Code" 30 "TreeCoverForge$Code" "lastUses" "[I" ∈ zz_tbl := zz_in (i := 187) (by decide +kernel) rfl
theorem wd_188 : Cond.fieldLink "TreeCoverForge$Code" 33 "TreeCoverForge$Code" "places" "[I" ∈ zz_tbl := zz_in (i := 188) (by decide +kernel) rfl
theorem wd_189 : Cond.fieldLink "TreeCoverForge$Code" 36 "TreeCoverForge$Code" "memory" "[I" ∈ zz_tbl := zz_in (i := 189) (by decide +kernel) rfl
theorem wd_190 : Cond.fieldLink "TreeCoverForge$Code" 39 "TreeCoverForge$Code" "holders" "[I" ∈ zz_tbl := zz_in (i := 190) (by decide +kernel) rfl
theorem wd_191 : Cond.fieldLink "TreeCoverForge$Code" 42 "TreeCoverForge$Code" "kinds" "[I" ∈ zz_tbl := zz_in (i := 191) (by decide +kernel) rfl
theorem wd_192 : Cond.fieldLink "TreeCoverForge$Code" 45 "TreeCoverForge$Code" "latest" "[I" ∈ zz_tbl := zz_in (i := 192) (by decide +kernel) rfl
theorem wd_193 : Cond.fieldLink "TreeCoverForge$Code" 48 "TreeCoverForge$Code" "path" "[I" ∈ zz_tbl := zz_in (i := 193) (by decide +kernel) rfl
theorem wd_194 : Cond.fieldLink "TreeCoverForge$Code" 51 "TreeCoverForge$Code" "count" "I" ∈ zz_tbl := zz_in (i := 194) (by decide +kernel) rfl
theorem wd_195 : Cond.fieldLink "TreeCoverForge" 134 "TreeCoverForge$Code" "count" "I" ∈ zz_tbl := zz_in (i := 195) (by decide +kernel) rfl
theorem wd_196 : Cond.fieldLink "TreeCoverForge$Code" 103 "TreeCoverForge$Code" "slotCount" "I" ∈ zz_tbl := zz_in (i := 196) (by decide +kernel) rfl
theorem wd_197 : Cond.fieldLink "TreeCoverForge" 139 "TreeCoverForge$Code" "slotCount" "I" ∈ zz_tbl := zz_in (i := 197) (by decide +kernel) rfl
theorem wd_229 : Cond.fieldLink "TreeCoverForge" 12 "TreeCoverForge" "book" "LTreeCoverForge$RuleBook;" ∈ zz_tbl := zz_in (i := 229) (by decide +kernel) rfl
theorem wd_230 : Cond.fieldLink "TreeCoverForge" 19 "TreeCoverForge" "pile" "LTreeCoverForge$Pile;" ∈ zz_tbl := zz_in (i := 230) (by decide +kernel) rfl
theorem wd_231 : Cond.fieldLink "TreeCoverForge" 26 "TreeCoverForge" "table" "LTreeCoverForge$StateTable;" ∈ zz_tbl := zz_in (i := 231) (by decide +kernel) rfl
theorem wd_232 : Cond.fieldLink "TreeCoverForge" 33 "TreeCoverForge" "code" "LTreeCoverForge$Code;" ∈ zz_tbl := zz_in (i := 232) (by decide +kernel) rfl
theorem wd_233 : Cond.fieldLink "TreeCoverForge" 37 "TreeCoverForge" "variables" "[I" ∈ zz_tbl := zz_in (i := 233) (by decide +kernel) rfl
theorem wd_234 : Cond.fieldLink "TreeCoverForge" 41 "TreeCoverForge" "registerCount" "I" ∈ zz_tbl := zz_in (i := 234) (by decide +kernel) rfl
theorem wd_248 : Cond.methodLink "TreeCoverForgeLaw" 13 y_Forge_rule ∈ zz_tbl := zz_in (i := 248) (by decide +kernel) rfl
theorem wd_252 : Cond.methodLink "TreeCoverForge" 45 y_Forge_isKind ∈ zz_tbl := zz_in (i := 252) (by decide +kernel) rfl
theorem wd_255 : Cond.methodLink "TreeCoverForge" 49 y_Forge_fitsOperator ∈ zz_tbl := zz_in (i := 255) (by decide +kernel) rfl
theorem wd_258 : Cond.fieldLink "TreeCoverForge" 83 "TreeCoverForge" "ARITIES" "[I" ∈ zz_tbl := zz_in (i := 258) (by decide +kernel) rfl
theorem wd_260 : Cond.methodLink "TreeCoverForge" 53 y_Forge_isCostFor ∈ zz_tbl := zz_in (i := 260) (by decide +kernel) rfl
theorem wd_263 : Cond.methodLink "TreeCoverForge" 60 y_Forge_forgetConclusions ∈ zz_tbl := zz_in (i := 263) (by decide +kernel) rfl
theorem wd_267 : Cond.methodLink "TreeCoverForge" 63 y_Book_add ∈ zz_tbl := zz_in (i := 267) (by decide +kernel) rfl
theorem wd_271 : Cond.methodLink "TreeCoverForgeLaw" 18 y_Forge_clear ∈ zz_tbl := zz_in (i := 271) (by decide +kernel) rfl
theorem wd_275 : Cond.methodLink "TreeCoverForge" 67 y_Book_removeAll ∈ zz_tbl := zz_in (i := 275) (by decide +kernel) rfl
theorem wd_279 : Cond.methodLink "TreeCoverForge$RuleBook" 39 y_Arrays_fillI ∈ zz_tbl := zz_in (i := 279) (by decide +kernel) rfl
theorem wd_282 : Cond.methodLink "TreeCoverForgeLaw" 22 y_Forge_states ∈ zz_tbl := zz_in (i := 282) (by decide +kernel) rfl
theorem wd_286 : Cond.methodLink "TreeCoverForge" 73 y_Table_findAll ∈ zz_tbl := zz_in (i := 286) (by decide +kernel) rfl
theorem wd_290 : Cond.methodLink "TreeCoverForge$StateTable" 29 y_Table_look ∈ zz_tbl := zz_in (i := 290) (by decide +kernel) rfl
theorem wd_294 : Cond.methodLink "TreeCoverForge$StateTable" 37 y_Label_derive ∈ zz_tbl := zz_in (i := 294) (by decide +kernel) rfl
theorem wd_298 : Cond.constantLong "TreeCoverForge$Label" 19 (-1) ∈ zz_tbl := zz_in (i := 298) (by decide +kernel) rfl
theorem wd_299 : Cond.methodLink "TreeCoverForge$Label" 21 y_Arrays_fillJ ∈ zz_tbl := zz_in (i := 299) (by decide +kernel) rfl
theorem wd_302 : Cond.methodLink "TreeCoverForge$Label" 27 y_Arrays_fillI ∈ zz_tbl := zz_in (i := 302) (by decide +kernel) rfl
theorem wd_303 : Cond.methodLink "TreeCoverForge$Label" 45 y_Label_isCovered ∈ zz_tbl := zz_in (i := 303) (by decide +kernel) rfl
theorem wd_307 : Cond.methodLink "TreeCoverForge$Label" 49 y_Label_offer ∈ zz_tbl := zz_in (i := 307) (by decide +kernel) rfl
theorem wd_311 : Cond.methodLink "TreeCoverForge$Label" 53 y_Label_applyChains ∈ zz_tbl := zz_in (i := 311) (by decide +kernel) rfl
theorem wd_315 : Cond.methodLink "TreeCoverForge$StateTable" 40 y_Label_makeRelative ∈ zz_tbl := zz_in (i := 315) (by decide +kernel) rfl
theorem wd_319 : Cond.methodLink "TreeCoverForge$Label" 62 y_Label_leastCost ∈ zz_tbl := zz_in (i := 319) (by decide +kernel) rfl
theorem wd_323 : Cond.methodLink "TreeCoverForge$StateTable" 43 y_Label_agreesWith ∈ zz_tbl := zz_in (i := 323) (by decide +kernel) rfl
theorem wd_327 : Cond.methodLink "TreeCoverForge$StateTable" 33 y_Table_lookAtPair ∈ zz_tbl := zz_in (i := 327) (by decide +kernel) rfl
theorem wd_331 : Cond.methodLink "TreeCoverForgeLaw" 27 y_Forge_push ∈ zz_tbl := zz_in (i := 331) (by decide +kernel) rfl
theorem wd_335 : Cond.methodLink "TreeCoverForge" 77 y_Forge_isNumberFor ∈ zz_tbl := zz_in (i := 335) (by decide +kernel) rfl
theorem wd_338 : Cond.methodLink "TreeCoverForge" 142 y_Forge_isVariable ∈ zz_tbl := zz_in (i := 338) (by decide +kernel) rfl
theorem wd_341 : Cond.methodLink "TreeCoverForge" 89 y_Pile_heightOfNew ∈ zz_tbl := zz_in (i := 341) (by decide +kernel) rfl
theorem wd_345 : Cond.fieldLinkNest "TreeCoverForge$Pile" 49 "TreeCoverForge" "ARITIES" "[I" "TreeCoverForge" ∈ lw_tbl := List.mem_of_getElem? (i := 345) (by decide +kernel)
theorem wd_346 : Cond.methodLink "TreeCoverForge$Pile" 52 y_Pile_firstKid ∈ zz_tbl := zz_in (i := 346) (by decide +kernel) rfl
theorem wd_350 : Cond.methodLink "TreeCoverForge$Pile" 56 y_Math_max ∈ zz_tbl := zz_in (i := 350) (by decide +kernel) rfl
theorem wd_353 : Cond.methodLink "TreeCoverForge" 93 y_Pile_add ∈ zz_tbl := zz_in (i := 353) (by decide +kernel) rfl
theorem wd_357 : Cond.methodLink "TreeCoverForge$Pile" 61 y_Pile_heightOfNew ∈ zz_tbl := zz_in (i := 357) (by decide +kernel) rfl
theorem wd_358 : Cond.methodLink "TreeCoverForgeLaw" 32 y_Forge_pop ∈ zz_tbl := zz_in (i := 358) (by decide +kernel) rfl
theorem wd_362 : Cond.methodLink "TreeCoverForge" 96 y_Pile_removeTop ∈ zz_tbl := zz_in (i := 362) (by decide +kernel) rfl
theorem wd_366 : Cond.methodLink "TreeCoverForge$Pile" 45 y_Pile_topSize ∈ zz_tbl := zz_in (i := 366) (by decide +kernel) rfl
theorem wd_370 : Cond.methodLink "TreeCoverForge$Pile" 68 y_Math_min ∈ zz_tbl := zz_in (i := 370) (by decide +kernel) rfl
theorem wd_373 : Cond.methodLink "TreeCoverForgeLaw" 37 y_Forge_trees ∈ zz_tbl := zz_in (i := 373) (by decide +kernel) rfl
theorem wd_377 : Cond.methodLink "TreeCoverForgeLaw" 41 y_Forge_nodes ∈ zz_tbl := zz_in (i := 377) (by decide +kernel) rfl
theorem wd_381 : Cond.methodLink "TreeCoverForge" 99 y_Pile_topSize ∈ zz_tbl := zz_in (i := 381) (by decide +kernel) rfl
theorem wd_382 : Cond.methodLink "TreeCoverForgeLaw" 45 y_Forge_relative ∈ zz_tbl := zz_in (i := 382) (by decide +kernel) rfl
theorem wd_386 : Cond.methodLink "TreeCoverForge" 103 y_Forge_isTopNode ∈ zz_tbl := zz_in (i := 386) (by decide +kernel) rfl
theorem wd_390 : Cond.methodLink "TreeCoverForge" 106 y_Pile_labelOf ∈ zz_tbl := zz_in (i := 390) (by decide +kernel) rfl
theorem wd_394 : Cond.methodLink "TreeCoverForge$Pile" 71 y_Label_derive ∈ zz_tbl := zz_in (i := 394) (by decide +kernel) rfl
theorem wd_395 : Cond.methodLink "TreeCoverForge$Pile" 75 y_Pile_topStart ∈ zz_tbl := zz_in (i := 395) (by decide +kernel) rfl
theorem wd_399 : Cond.methodLink "TreeCoverForge" 110 y_Label_isCovered ∈ zz_tbl := zz_in (i := 399) (by decide +kernel) rfl
theorem wd_400 : Cond.methodLink "TreeCoverForge" 119 y_Label_leastCost ∈ zz_tbl := zz_in (i := 400) (by decide +kernel) rfl
theorem wd_401 : Cond.methodLink "TreeCoverForgeLaw" 49 y_Forge_choice ∈ zz_tbl := zz_in (i := 401) (by decide +kernel) rfl
theorem wd_405 : Cond.methodLink "TreeCoverForgeLaw" 53 y_Forge_cost ∈ zz_tbl := zz_in (i := 405) (by decide +kernel) rfl
theorem wd_409 : Cond.methodLink "TreeCoverForgeLaw" 58 y_Forge_registers ∈ zz_tbl := zz_in (i := 409) (by decide +kernel) rfl
theorem wd_413 : Cond.methodLink "TreeCoverForgeLaw" 63 y_Forge_cover ∈ zz_tbl := zz_in (i := 413) (by decide +kernel) rfl
theorem wd_417 : Cond.methodLink "TreeCoverForge" 126 y_Code_write ∈ zz_tbl := zz_in (i := 417) (by decide +kernel) rfl
theorem wd_421 : Cond.methodLink "TreeCoverForge$Code" 55 y_Code_chooseKinds ∈ zz_tbl := zz_in (i := 421) (by decide +kernel) rfl
theorem wd_425 : Cond.methodLink "TreeCoverForge$Code" 59 y_Pile_topStart ∈ zz_tbl := zz_in (i := 425) (by decide +kernel) rfl
theorem wd_426 : Cond.methodLink "TreeCoverForge$Code" 68 y_Code_followChoices ∈ zz_tbl := zz_in (i := 426) (by decide +kernel) rfl
theorem wd_430 : Cond.fieldLinkNest "TreeCoverForge$Code" 81 "TreeCoverForge" "ARITIES" "[I" "TreeCoverForge" ∈ lw_tbl := List.mem_of_getElem? (i := 430) (by decide +kernel)
theorem wd_431 : Cond.methodLink "TreeCoverForge$Code" 84 y_Pile_firstKid ∈ zz_tbl := zz_in (i := 431) (by decide +kernel) rfl
theorem wd_432 : Cond.methodLink "TreeCoverForge$Code" 72 y_Code_writeOperator ∈ zz_tbl := zz_in (i := 432) (by decide +kernel) rfl
theorem wd_436 : Cond.methodLink "TreeCoverForge$Code" 76 y_Code_append ∈ zz_tbl := zz_in (i := 436) (by decide +kernel) rfl
theorem wd_440 : Cond.methodLink "TreeCoverForge" 130 y_Code_givePlaces ∈ zz_tbl := zz_in (i := 440) (by decide +kernel) rfl
theorem wd_444 : Cond.methodLink "TreeCoverForge$Code" 106 y_Arrays_fillI ∈ zz_tbl := zz_in (i := 444) (by decide +kernel) rfl
theorem wd_445 : Cond.methodLink "TreeCoverForge$Code" 112 y_Code_releaseUntil ∈ zz_tbl := zz_in (i := 445) (by decide +kernel) rfl
theorem wd_449 : Cond.methodLink "TreeCoverForge$Code" 116 y_Code_leastFree ∈ zz_tbl := zz_in (i := 449) (by decide +kernel) rfl
theorem wd_453 : Cond.methodLink "TreeCoverForge$Code" 120 y_Code_spillFor ∈ zz_tbl := zz_in (i := 453) (by decide +kernel) rfl
theorem wd_457 : Cond.methodLink "TreeCoverForge$Code" 123 y_Code_isNeededLonger ∈ zz_tbl := zz_in (i := 457) (by decide +kernel) rfl
theorem wd_461 : Cond.methodLink "TreeCoverForgeLaw" 67 y_Forge_instruction ∈ zz_tbl := zz_in (i := 461) (by decide +kernel) rfl
theorem wd_465 : Cond.methodLink "TreeCoverForge" 135 y_Code_tell ∈ zz_tbl := zz_in (i := 465) (by decide +kernel) rfl
theorem wd_469 : Cond.methodLink "TreeCoverForge$Code" 127 y_Code_placeOf ∈ zz_tbl := zz_in (i := 469) (by decide +kernel) rfl
theorem wd_473 : Cond.methodLink "TreeCoverForgeLaw" 71 y_Forge_slots ∈ zz_tbl := zz_in (i := 473) (by decide +kernel) rfl
theorem wd_477 : Cond.methodLink "TreeCoverForgeLaw" 75 y_Forge_set ∈ zz_tbl := zz_in (i := 477) (by decide +kernel) rfl
theorem wd_481 : Cond.methodLink "TreeCoverForgeLaw" 80 y_Forge_run ∈ zz_tbl := zz_in (i := 481) (by decide +kernel) rfl
theorem wd_485 : Cond.methodLink "TreeCoverForge" 145 y_Code_execute ∈ zz_tbl := zz_in (i := 485) (by decide +kernel) rfl
theorem wd_489 : Cond.methodLinkNest "TreeCoverForge$Code" 130 y_Forge_resultOf "TreeCoverForge" ∈ lw_tbl := List.mem_of_getElem? (i := 489) (by decide +kernel)
theorem wd_492 : Cond.methodLink "TreeCoverForgeLaw" 84 y_Forge_value ∈ zz_tbl := zz_in (i := 492) (by decide +kernel) rfl
theorem wd_496 : Cond.methodLink "TreeCoverForge" 149 y_Pile_evaluateTop ∈ zz_tbl := zz_in (i := 496) (by decide +kernel) rfl
theorem wd_500 : Cond.methodLinkNest "TreeCoverForge$Pile" 78 y_Forge_resultOf "TreeCoverForge" ∈ lw_tbl := List.mem_of_getElem? (i := 500) (by decide +kernel)
theorem wd_503 : Cond.methodLink "TreeCoverForgeLaw" 12 y_Model_init ∈ zz_tbl := zz_in (i := 503) (by decide +kernel) rfl
theorem wd_506 : Cond.methodLink "TreeCoverForgeModel" 1 y_Object_init ∈ zz_tbl := zz_in (i := 506) (by decide +kernel) rfl
theorem wd_507 : Cond.fieldLink "TreeCoverForgeModel" 115 "TreeCoverForgeModel" "rules" "I" ∈ zz_tbl := zz_in (i := 507) (by decide +kernel) rfl
theorem wd_508 : Cond.fieldLink "TreeCoverForgeModel" 7 "TreeCoverForgeModel" "makes" "[I" ∈ zz_tbl := zz_in (i := 508) (by decide +kernel) rfl
theorem wd_509 : Cond.fieldLink "TreeCoverForgeModel" 13 "TreeCoverForgeModel" "operator" "[I" ∈ zz_tbl := zz_in (i := 509) (by decide +kernel) rfl
theorem wd_510 : Cond.fieldLink "TreeCoverForgeModel" 16 "TreeCoverForgeModel" "first" "[I" ∈ zz_tbl := zz_in (i := 510) (by decide +kernel) rfl
theorem wd_511 : Cond.fieldLink "TreeCoverForgeModel" 19 "TreeCoverForgeModel" "second" "[I" ∈ zz_tbl := zz_in (i := 511) (by decide +kernel) rfl
theorem wd_512 : Cond.fieldLink "TreeCoverForgeModel" 22 "TreeCoverForgeModel" "price" "[I" ∈ zz_tbl := zz_in (i := 512) (by decide +kernel) rfl
theorem wd_513 : Cond.fieldLink "TreeCoverForgeModel" 131 "TreeCoverForgeModel" "total" "I" ∈ zz_tbl := zz_in (i := 513) (by decide +kernel) rfl
theorem wd_514 : Cond.fieldLink "TreeCoverForgeModel" 25 "TreeCoverForgeModel" "op" "[I" ∈ zz_tbl := zz_in (i := 514) (by decide +kernel) rfl
theorem wd_515 : Cond.fieldLink "TreeCoverForgeModel" 28 "TreeCoverForgeModel" "number" "[I" ∈ zz_tbl := zz_in (i := 515) (by decide +kernel) rfl
theorem wd_516 : Cond.fieldLink "TreeCoverForgeModel" 31 "TreeCoverForgeModel" "size" "[I" ∈ zz_tbl := zz_in (i := 516) (by decide +kernel) rfl
theorem wd_517 : Cond.fieldLink "TreeCoverForgeModel" 34 "TreeCoverForgeModel" "height" "[I" ∈ zz_tbl := zz_in (i := 517) (by decide +kernel) rfl
theorem wd_518 : Cond.fieldLink "TreeCoverForgeModel" 128 "TreeCoverForgeModel" "many" "I" ∈ zz_tbl := zz_in (i := 518) (by decide +kernel) rfl
theorem wd_519 : Cond.fieldLink "TreeCoverForgeModel" 37 "TreeCoverForgeModel" "start" "[I" ∈ zz_tbl := zz_in (i := 519) (by decide +kernel) rfl
theorem wd_520 : Cond.fieldLink "TreeCoverForgeModel" 40 "TreeCoverForgeModel" "least" "[J" ∈ zz_tbl := zz_in (i := 520) (by decide +kernel) rfl
theorem wd_521 : Cond.fieldLink "TreeCoverForgeModel" 44 "TreeCoverForgeModel" "chosen" "[I" ∈ zz_tbl := zz_in (i := 521) (by decide +kernel) rfl
theorem wd_522 : Cond.fieldLink "TreeCoverForgeModel" 47 "TreeCoverForgeModel" "left" "[J" ∈ zz_tbl := zz_in (i := 522) (by decide +kernel) rfl
theorem wd_523 : Cond.fieldLink "TreeCoverForgeModel" 50 "TreeCoverForgeModel" "right" "[J" ∈ zz_tbl := zz_in (i := 523) (by decide +kernel) rfl
theorem wd_524 : Cond.fieldLink "TreeCoverForgeModel" 53 "TreeCoverForgeModel" "got" "[J" ∈ zz_tbl := zz_in (i := 524) (by decide +kernel) rfl
theorem wd_525 : Cond.fieldLink "TreeCoverForgeModel" 56 "TreeCoverForgeModel" "pick" "[I" ∈ zz_tbl := zz_in (i := 525) (by decide +kernel) rfl
theorem wd_526 : Cond.fieldLink "TreeCoverForgeModel" 145 "TreeCoverForgeModel" "stateCount" "I" ∈ zz_tbl := zz_in (i := 526) (by decide +kernel) rfl
theorem wd_527 : Cond.fieldLink "TreeCoverForgeModel" 59 "TreeCoverForgeModel" "stateCost" "[J" ∈ zz_tbl := zz_in (i := 527) (by decide +kernel) rfl
theorem wd_528 : Cond.fieldLink "TreeCoverForgeModel" 62 "TreeCoverForgeModel" "statePick" "[I" ∈ zz_tbl := zz_in (i := 528) (by decide +kernel) rfl
theorem wd_529 : Cond.fieldLink "TreeCoverForgeModel" 166 "TreeCoverForgeModel" "length" "I" ∈ zz_tbl := zz_in (i := 529) (by decide +kernel) rfl
theorem wd_530 : Cond.fieldLink "TreeCoverForgeModel" 176 "TreeCoverForgeModel" "slotCount" "I" ∈ zz_tbl := zz_in (i := 530) (by decide +kernel) rfl
theorem wd_531 : Cond.fieldLink "TreeCoverForgeModel" 65 "TreeCoverForgeModel" "registers" "I" ∈ zz_tbl := zz_in (i := 531) (by decide +kernel) rfl
theorem wd_532 : Cond.fieldLink "TreeCoverForgeModel" 69 "TreeCoverForgeModel" "codeRule" "[I" ∈ zz_tbl := zz_in (i := 532) (by decide +kernel) rfl
theorem wd_533 : Cond.fieldLink "TreeCoverForgeModel" 72 "TreeCoverForgeModel" "codeNode" "[I" ∈ zz_tbl := zz_in (i := 533) (by decide +kernel) rfl
theorem wd_534 : Cond.fieldLink "TreeCoverForgeModel" 75 "TreeCoverForgeModel" "codeOp" "[I" ∈ zz_tbl := zz_in (i := 534) (by decide +kernel) rfl
theorem wd_535 : Cond.fieldLink "TreeCoverForgeModel" 78 "TreeCoverForgeModel" "codeNumber" "[I" ∈ zz_tbl := zz_in (i := 535) (by decide +kernel) rfl
theorem wd_536 : Cond.fieldLink "TreeCoverForgeModel" 81 "TreeCoverForgeModel" "sourceA" "[I" ∈ zz_tbl := zz_in (i := 536) (by decide +kernel) rfl
theorem wd_537 : Cond.fieldLink "TreeCoverForgeModel" 84 "TreeCoverForgeModel" "sourceB" "[I" ∈ zz_tbl := zz_in (i := 537) (by decide +kernel) rfl
theorem wd_538 : Cond.fieldLink "TreeCoverForgeModel" 87 "TreeCoverForgeModel" "until" "[I" ∈ zz_tbl := zz_in (i := 538) (by decide +kernel) rfl
theorem wd_539 : Cond.fieldLink "TreeCoverForgeModel" 90 "TreeCoverForgeModel" "place" "[I" ∈ zz_tbl := zz_in (i := 539) (by decide +kernel) rfl
theorem wd_540 : Cond.fieldLink "TreeCoverForgeModel" 93 "TreeCoverForgeModel" "result" "[I" ∈ zz_tbl := zz_in (i := 540) (by decide +kernel) rfl
theorem wd_541 : Cond.fieldLink "TreeCoverForgeModel" 96 "TreeCoverForgeModel" "wanted" "[I" ∈ zz_tbl := zz_in (i := 541) (by decide +kernel) rfl
theorem wd_542 : Cond.fieldLink "TreeCoverForgeModel" 99 "TreeCoverForgeModel" "latest" "[I" ∈ zz_tbl := zz_in (i := 542) (by decide +kernel) rfl
theorem wd_543 : Cond.fieldLink "TreeCoverForgeModel" 102 "TreeCoverForgeModel" "chain" "[I" ∈ zz_tbl := zz_in (i := 543) (by decide +kernel) rfl
theorem wd_544 : Cond.fieldLink "TreeCoverForgeModel" 105 "TreeCoverForgeModel" "variables" "[I" ∈ zz_tbl := zz_in (i := 544) (by decide +kernel) rfl
theorem wd_545 : Cond.fieldLink "TreeCoverForgeModel" 108 "TreeCoverForgeModel" "values" "[I" ∈ zz_tbl := zz_in (i := 545) (by decide +kernel) rfl
theorem wd_625 : Cond.methodLink "TreeCoverForgeLaw" 17 y_Model_rule ∈ zz_tbl := zz_in (i := 625) (by decide +kernel) rfl
theorem wd_629 : Cond.methodLink "TreeCoverForgeModel" 111 y_Model_outside ∈ zz_tbl := zz_in (i := 629) (by decide +kernel) rfl
theorem wd_632 : Cond.methodLink "TreeCoverForgeLaw" 21 y_Model_clear ∈ zz_tbl := zz_in (i := 632) (by decide +kernel) rfl
theorem wd_636 : Cond.methodLink "TreeCoverForgeLaw" 26 y_Model_states ∈ zz_tbl := zz_in (i := 636) (by decide +kernel) rfl
theorem wd_640 : Cond.methodLink "TreeCoverForgeModel" 138 y_Model_combine ∈ zz_tbl := zz_in (i := 640) (by decide +kernel) rfl
theorem wd_644 : Cond.constantLong "TreeCoverForgeModel" 118 1125899906842624 ∈ zz_tbl := zz_in (i := 644) (by decide +kernel) rfl
theorem wd_645 : Cond.methodLink "TreeCoverForgeModel" 124 y_Model_through ∈ zz_tbl := zz_in (i := 645) (by decide +kernel) rfl
theorem wd_649 : Cond.methodLink "TreeCoverForgeModel" 120 y_Model_kids ∈ zz_tbl := zz_in (i := 649) (by decide +kernel) rfl
theorem wd_652 : Cond.methodLink "TreeCoverForgeModel" 148 y_Model_known ∈ zz_tbl := zz_in (i := 652) (by decide +kernel) rfl
theorem wd_656 : Cond.methodLink "TreeCoverForgeModel" 141 y_Model_lowest ∈ zz_tbl := zz_in (i := 656) (by decide +kernel) rfl
theorem wd_660 : Cond.methodLink "TreeCoverForgeModel" 152 y_Model_reach ∈ zz_tbl := zz_in (i := 660) (by decide +kernel) rfl
theorem wd_664 : Cond.methodLink "TreeCoverForgeLaw" 31 y_Model_push ∈ zz_tbl := zz_in (i := 664) (by decide +kernel) rfl
theorem wd_668 : Cond.methodLink "TreeCoverForgeLaw" 36 y_Model_pop ∈ zz_tbl := zz_in (i := 668) (by decide +kernel) rfl
theorem wd_672 : Cond.methodLink "TreeCoverForgeLaw" 40 y_Model_trees ∈ zz_tbl := zz_in (i := 672) (by decide +kernel) rfl
theorem wd_676 : Cond.methodLink "TreeCoverForgeLaw" 44 y_Model_nodes ∈ zz_tbl := zz_in (i := 676) (by decide +kernel) rfl
theorem wd_680 : Cond.methodLink "TreeCoverForgeLaw" 48 y_Model_relative ∈ zz_tbl := zz_in (i := 680) (by decide +kernel) rfl
theorem wd_684 : Cond.methodLink "TreeCoverForgeModel" 163 y_Model_noNode ∈ zz_tbl := zz_in (i := 684) (by decide +kernel) rfl
theorem wd_688 : Cond.methodLink "TreeCoverForgeModel" 156 y_Model_nodes ∈ zz_tbl := zz_in (i := 688) (by decide +kernel) rfl
theorem wd_689 : Cond.methodLink "TreeCoverForgeModel" 160 y_Model_work ∈ zz_tbl := zz_in (i := 689) (by decide +kernel) rfl
theorem wd_693 : Cond.methodLink "TreeCoverForgeModel" 134 y_Model_takeKids ∈ zz_tbl := zz_in (i := 693) (by decide +kernel) rfl
theorem wd_697 : Cond.methodLink "TreeCoverForgeLaw" 52 y_Model_choice ∈ zz_tbl := zz_in (i := 697) (by decide +kernel) rfl
theorem wd_701 : Cond.methodLink "TreeCoverForgeLaw" 57 y_Model_cost ∈ zz_tbl := zz_in (i := 701) (by decide +kernel) rfl
theorem wd_705 : Cond.methodLink "TreeCoverForgeLaw" 62 y_Model_registers ∈ zz_tbl := zz_in (i := 705) (by decide +kernel) rfl
theorem wd_709 : Cond.methodLink "TreeCoverForgeLaw" 66 y_Model_cover ∈ zz_tbl := zz_in (i := 709) (by decide +kernel) rfl
theorem wd_713 : Cond.methodLink "TreeCoverForgeModel" 179 y_Model_want ∈ zz_tbl := zz_in (i := 713) (by decide +kernel) rfl
theorem wd_717 : Cond.methodLink "TreeCoverForgeModel" 182 y_Model_emit ∈ zz_tbl := zz_in (i := 717) (by decide +kernel) rfl
theorem wd_721 : Cond.methodLink "TreeCoverForgeModel" 169 y_Model_write ∈ zz_tbl := zz_in (i := 721) (by decide +kernel) rfl
theorem wd_725 : Cond.methodLink "TreeCoverForgeModel" 186 y_Model_settle ∈ zz_tbl := zz_in (i := 725) (by decide +kernel) rfl
theorem wd_729 : Cond.methodLink "TreeCoverForgeModel" 173 y_Model_holds ∈ zz_tbl := zz_in (i := 729) (by decide +kernel) rfl
theorem wd_733 : Cond.methodLink "TreeCoverForgeLaw" 70 y_Model_instruction ∈ zz_tbl := zz_in (i := 733) (by decide +kernel) rfl
theorem wd_737 : Cond.methodLink "TreeCoverForgeLaw" 74 y_Model_slots ∈ zz_tbl := zz_in (i := 737) (by decide +kernel) rfl
theorem wd_741 : Cond.methodLink "TreeCoverForgeLaw" 79 y_Model_set ∈ zz_tbl := zz_in (i := 741) (by decide +kernel) rfl
theorem wd_745 : Cond.methodLink "TreeCoverForgeLaw" 83 y_Model_run ∈ zz_tbl := zz_in (i := 745) (by decide +kernel) rfl
theorem wd_749 : Cond.methodLink "TreeCoverForgeModel" 189 y_Model_calculate ∈ zz_tbl := zz_in (i := 749) (by decide +kernel) rfl
theorem wd_753 : Cond.methodLink "TreeCoverForgeLaw" 87 y_Model_value ∈ zz_tbl := zz_in (i := 753) (by decide +kernel) rfl
theorem k_Forge_rule : zz_Y1 y_Forge_rule b_Forge_rule 6 (some .int) 5 := ⟨zz_in (i := 251) (by decide +kernel) rfl, zz_in (i := 30) (by decide +kernel) rfl, zz_in (i := 249) (by decide +kernel) rfl, zz_in (i := 250) (by decide +kernel) rfl, ⟨by decide, by decide, by decide +kernel⟩⟩
theorem k_Forge_isKind : zz_Y0 y_Forge_isKind b_Forge_isKind 1 (some .boolean) 1 := ⟨zz_in (i := 254) (by decide +kernel) rfl, zz_in (i := 30) (by decide +kernel) rfl, zz_in (i := 253) (by decide +kernel) rfl, ⟨by decide, by decide, by decide +kernel⟩⟩
theorem k_Forge_fitsOperator : zz_Y0 y_Forge_fitsOperator b_Forge_fitsOperator 4 (some .boolean) 4 := ⟨zz_in (i := 257) (by decide +kernel) rfl, zz_in (i := 30) (by decide +kernel) rfl, zz_in (i := 256) (by decide +kernel) rfl, ⟨by decide, by decide, by decide +kernel⟩⟩
theorem k_Forge_isCostFor : zz_Y0 y_Forge_isCostFor b_Forge_isCostFor 2 (some .boolean) 2 := ⟨zz_in (i := 262) (by decide +kernel) rfl, zz_in (i := 30) (by decide +kernel) rfl, zz_in (i := 261) (by decide +kernel) rfl, ⟨by decide, by decide, by decide +kernel⟩⟩
theorem k_Forge_forgetConclusions : zz_Y1 y_Forge_forgetConclusions b_Forge_forgetConclusions 1 none 0 := ⟨zz_in (i := 266) (by decide +kernel) rfl, zz_in (i := 30) (by decide +kernel) rfl, zz_in (i := 265) (by decide +kernel) rfl, zz_in (i := 0) (by decide +kernel) rfl, ⟨by decide, by decide, by decide +kernel⟩⟩
theorem k_Book_add : zz_Y1 y_Book_add b_Book_add 7 (some .int) 5 := ⟨zz_in (i := 270) (by decide +kernel) rfl, zz_in (i := 31) (by decide +kernel) rfl, zz_in (i := 268) (by decide +kernel) rfl, zz_in (i := 269) (by decide +kernel) rfl, ⟨by decide, by decide, by decide +kernel⟩⟩
theorem k_Forge_clear : zz_Y1 y_Forge_clear b_Forge_clear 1 none 0 := ⟨zz_in (i := 274) (by decide +kernel) rfl, zz_in (i := 30) (by decide +kernel) rfl, zz_in (i := 272) (by decide +kernel) rfl, zz_in (i := 273) (by decide +kernel) rfl, ⟨by decide, by decide, by decide +kernel⟩⟩
theorem k_Book_removeAll : zz_Y1 y_Book_removeAll b_Book_removeAll 1 none 0 := ⟨zz_in (i := 278) (by decide +kernel) rfl, zz_in (i := 31) (by decide +kernel) rfl, zz_in (i := 276) (by decide +kernel) rfl, zz_in (i := 277) (by decide +kernel) rfl, ⟨by decide, by decide, by decide +kernel⟩⟩
theorem k_Arrays_fillI : zz_Y0 y_Arrays_fillI b_Arrays_fillI 4 none 2 := ⟨zz_in (i := 281) (by decide +kernel) rfl, zz_in (i := 37) (by decide +kernel) rfl, zz_in (i := 280) (by decide +kernel) rfl, ⟨by decide, by decide, by decide +kernel⟩⟩
theorem k_Forge_states : zz_Y1 y_Forge_states b_Forge_states 1 (some .int) 0 := ⟨zz_in (i := 285) (by decide +kernel) rfl, zz_in (i := 30) (by decide +kernel) rfl, zz_in (i := 283) (by decide +kernel) rfl, zz_in (i := 284) (by decide +kernel) rfl, ⟨by decide, by decide, by decide +kernel⟩⟩
theorem k_Table_findAll : zz_Y1 y_Table_findAll b_Table_findAll 4 none 1 := ⟨zz_in (i := 289) (by decide +kernel) rfl, zz_in (i := 34) (by decide +kernel) rfl, zz_in (i := 287) (by decide +kernel) rfl, zz_in (i := 288) (by decide +kernel) rfl, ⟨by decide, by decide, by decide +kernel⟩⟩
theorem k_Table_look : zz_Y1 y_Table_look b_Table_look 7 none 4 := ⟨zz_in (i := 293) (by decide +kernel) rfl, zz_in (i := 34) (by decide +kernel) rfl, zz_in (i := 292) (by decide +kernel) rfl, zz_in (i := 1) (by decide +kernel) rfl, ⟨by decide, by decide, by decide +kernel⟩⟩
theorem k_Label_derive : zz_Y1 y_Label_derive b_Label_derive 10 none 4 := ⟨zz_in (i := 297) (by decide +kernel) rfl, zz_in (i := 33) (by decide +kernel) rfl, zz_in (i := 295) (by decide +kernel) rfl, zz_in (i := 296) (by decide +kernel) rfl, ⟨by decide, by decide, by decide +kernel⟩⟩
theorem k_Arrays_fillJ : zz_Y0 y_Arrays_fillJ b_Arrays_fillJ 5 none 2 := ⟨zz_in (i := 301) (by decide +kernel) rfl, zz_in (i := 37) (by decide +kernel) rfl, zz_in (i := 300) (by decide +kernel) rfl, ⟨by decide, by decide, by decide +kernel⟩⟩
theorem k_Label_isCovered : zz_Y1 y_Label_isCovered b_Label_isCovered 2 (some .boolean) 1 := ⟨zz_in (i := 306) (by decide +kernel) rfl, zz_in (i := 33) (by decide +kernel) rfl, zz_in (i := 304) (by decide +kernel) rfl, zz_in (i := 305) (by decide +kernel) rfl, ⟨by decide, by decide, by decide +kernel⟩⟩
theorem k_Label_offer : zz_Y1 y_Label_offer b_Label_offer 9 (some .boolean) 3 := ⟨zz_in (i := 310) (by decide +kernel) rfl, zz_in (i := 33) (by decide +kernel) rfl, zz_in (i := 309) (by decide +kernel) rfl, zz_in (i := 2) (by decide +kernel) rfl, ⟨by decide, by decide, by decide +kernel⟩⟩
theorem k_Label_applyChains : zz_Y1 y_Label_applyChains b_Label_applyChains 8 none 1 := ⟨zz_in (i := 314) (by decide +kernel) rfl, zz_in (i := 33) (by decide +kernel) rfl, zz_in (i := 313) (by decide +kernel) rfl, zz_in (i := 3) (by decide +kernel) rfl, ⟨by decide, by decide, by decide +kernel⟩⟩
theorem k_Label_makeRelative : zz_Y1 y_Label_makeRelative b_Label_makeRelative 4 none 0 := ⟨zz_in (i := 318) (by decide +kernel) rfl, zz_in (i := 33) (by decide +kernel) rfl, zz_in (i := 316) (by decide +kernel) rfl, zz_in (i := 317) (by decide +kernel) rfl, ⟨by decide, by decide, by decide +kernel⟩⟩
theorem k_Label_leastCost : zz_Y1 y_Label_leastCost b_Label_leastCost 4 (some .long) 0 := ⟨zz_in (i := 322) (by decide +kernel) rfl, zz_in (i := 33) (by decide +kernel) rfl, zz_in (i := 320) (by decide +kernel) rfl, zz_in (i := 321) (by decide +kernel) rfl, ⟨by decide, by decide, by decide +kernel⟩⟩
theorem k_Label_agreesWith : zz_Y1 y_Label_agreesWith b_Label_agreesWith 3 (some .boolean) 1 := ⟨zz_in (i := 326) (by decide +kernel) rfl, zz_in (i := 33) (by decide +kernel) rfl, zz_in (i := 324) (by decide +kernel) rfl, zz_in (i := 325) (by decide +kernel) rfl, ⟨by decide, by decide, by decide +kernel⟩⟩
theorem k_Table_lookAtPair : zz_Y1 y_Table_lookAtPair b_Table_lookAtPair 5 none 3 := ⟨zz_in (i := 330) (by decide +kernel) rfl, zz_in (i := 34) (by decide +kernel) rfl, zz_in (i := 329) (by decide +kernel) rfl, zz_in (i := 4) (by decide +kernel) rfl, ⟨by decide, by decide, by decide +kernel⟩⟩
theorem k_Forge_push : zz_Y1 y_Forge_push b_Forge_push 3 (some .int) 2 := ⟨zz_in (i := 334) (by decide +kernel) rfl, zz_in (i := 30) (by decide +kernel) rfl, zz_in (i := 332) (by decide +kernel) rfl, zz_in (i := 333) (by decide +kernel) rfl, ⟨by decide, by decide, by decide +kernel⟩⟩
theorem k_Forge_isNumberFor : zz_Y0 y_Forge_isNumberFor b_Forge_isNumberFor 2 (some .boolean) 2 := ⟨zz_in (i := 337) (by decide +kernel) rfl, zz_in (i := 30) (by decide +kernel) rfl, zz_in (i := 336) (by decide +kernel) rfl, ⟨by decide, by decide, by decide +kernel⟩⟩
theorem k_Forge_isVariable : zz_Y0 y_Forge_isVariable b_Forge_isVariable 1 (some .boolean) 1 := ⟨zz_in (i := 340) (by decide +kernel) rfl, zz_in (i := 30) (by decide +kernel) rfl, zz_in (i := 339) (by decide +kernel) rfl, ⟨by decide, by decide, by decide +kernel⟩⟩
theorem k_Pile_heightOfNew : zz_Y1 y_Pile_heightOfNew b_Pile_heightOfNew 2 (some .int) 1 := ⟨zz_in (i := 344) (by decide +kernel) rfl, zz_in (i := 32) (by decide +kernel) rfl, zz_in (i := 342) (by decide +kernel) rfl, zz_in (i := 343) (by decide +kernel) rfl, ⟨by decide, by decide, by decide +kernel⟩⟩
theorem k_Pile_firstKid : zz_Y1 y_Pile_firstKid b_Pile_firstKid 3 (some .int) 2 := ⟨zz_in (i := 349) (by decide +kernel) rfl, zz_in (i := 32) (by decide +kernel) rfl, zz_in (i := 347) (by decide +kernel) rfl, zz_in (i := 348) (by decide +kernel) rfl, ⟨by decide, by decide, by decide +kernel⟩⟩
theorem k_Math_max : zz_Y0 y_Math_max b_Math_max 2 (some .int) 2 := ⟨zz_in (i := 352) (by decide +kernel) rfl, zz_in (i := 38) (by decide +kernel) rfl, zz_in (i := 351) (by decide +kernel) rfl, ⟨by decide, by decide, by decide +kernel⟩⟩
theorem k_Pile_add : zz_Y1 y_Pile_add b_Pile_add 5 none 2 := ⟨zz_in (i := 356) (by decide +kernel) rfl, zz_in (i := 32) (by decide +kernel) rfl, zz_in (i := 354) (by decide +kernel) rfl, zz_in (i := 355) (by decide +kernel) rfl, ⟨by decide, by decide, by decide +kernel⟩⟩
theorem k_Forge_pop : zz_Y1 y_Forge_pop b_Forge_pop 1 (some .boolean) 0 := ⟨zz_in (i := 361) (by decide +kernel) rfl, zz_in (i := 30) (by decide +kernel) rfl, zz_in (i := 359) (by decide +kernel) rfl, zz_in (i := 360) (by decide +kernel) rfl, ⟨by decide, by decide, by decide +kernel⟩⟩
theorem k_Pile_removeTop : zz_Y1 y_Pile_removeTop b_Pile_removeTop 1 none 0 := ⟨zz_in (i := 365) (by decide +kernel) rfl, zz_in (i := 32) (by decide +kernel) rfl, zz_in (i := 363) (by decide +kernel) rfl, zz_in (i := 364) (by decide +kernel) rfl, ⟨by decide, by decide, by decide +kernel⟩⟩
theorem k_Pile_topSize : zz_Y1 y_Pile_topSize b_Pile_topSize 1 (some .int) 0 := ⟨zz_in (i := 369) (by decide +kernel) rfl, zz_in (i := 32) (by decide +kernel) rfl, zz_in (i := 367) (by decide +kernel) rfl, zz_in (i := 368) (by decide +kernel) rfl, ⟨by decide, by decide, by decide +kernel⟩⟩
theorem k_Math_min : zz_Y0 y_Math_min b_Math_min 2 (some .int) 2 := ⟨zz_in (i := 372) (by decide +kernel) rfl, zz_in (i := 38) (by decide +kernel) rfl, zz_in (i := 371) (by decide +kernel) rfl, ⟨by decide, by decide, by decide +kernel⟩⟩
theorem k_Forge_trees : zz_Y1 y_Forge_trees b_Forge_trees 1 (some .int) 0 := ⟨zz_in (i := 376) (by decide +kernel) rfl, zz_in (i := 30) (by decide +kernel) rfl, zz_in (i := 374) (by decide +kernel) rfl, zz_in (i := 375) (by decide +kernel) rfl, ⟨by decide, by decide, by decide +kernel⟩⟩
theorem k_Forge_nodes : zz_Y1 y_Forge_nodes b_Forge_nodes 1 (some .int) 0 := ⟨zz_in (i := 380) (by decide +kernel) rfl, zz_in (i := 30) (by decide +kernel) rfl, zz_in (i := 378) (by decide +kernel) rfl, zz_in (i := 379) (by decide +kernel) rfl, ⟨by decide, by decide, by decide +kernel⟩⟩
theorem k_Forge_relative : zz_Y1 y_Forge_relative b_Forge_relative 4 (some .int) 2 := ⟨zz_in (i := 385) (by decide +kernel) rfl, zz_in (i := 30) (by decide +kernel) rfl, zz_in (i := 383) (by decide +kernel) rfl, zz_in (i := 384) (by decide +kernel) rfl, ⟨by decide, by decide, by decide +kernel⟩⟩
theorem k_Forge_isTopNode : zz_Y1 y_Forge_isTopNode b_Forge_isTopNode 2 (some .boolean) 1 := ⟨zz_in (i := 389) (by decide +kernel) rfl, zz_in (i := 30) (by decide +kernel) rfl, zz_in (i := 388) (by decide +kernel) rfl, zz_in (i := 5) (by decide +kernel) rfl, ⟨by decide, by decide, by decide +kernel⟩⟩
theorem k_Pile_labelOf : zz_Y1 y_Pile_labelOf b_Pile_labelOf 7 (some (.object "TreeCoverForge$Label")) 2 := ⟨zz_in (i := 393) (by decide +kernel) rfl, zz_in (i := 32) (by decide +kernel) rfl, zz_in (i := 391) (by decide +kernel) rfl, zz_in (i := 392) (by decide +kernel) rfl, ⟨by decide, by decide, by decide +kernel⟩⟩
theorem k_Pile_topStart : zz_Y1 y_Pile_topStart b_Pile_topStart 1 (some .int) 0 := ⟨zz_in (i := 398) (by decide +kernel) rfl, zz_in (i := 32) (by decide +kernel) rfl, zz_in (i := 396) (by decide +kernel) rfl, zz_in (i := 397) (by decide +kernel) rfl, ⟨by decide, by decide, by decide +kernel⟩⟩
theorem k_Forge_choice : zz_Y1 y_Forge_choice b_Forge_choice 3 (some .int) 2 := ⟨zz_in (i := 404) (by decide +kernel) rfl, zz_in (i := 30) (by decide +kernel) rfl, zz_in (i := 402) (by decide +kernel) rfl, zz_in (i := 403) (by decide +kernel) rfl, ⟨by decide, by decide, by decide +kernel⟩⟩
theorem k_Forge_cost : zz_Y1 y_Forge_cost b_Forge_cost 3 (some .int) 1 := ⟨zz_in (i := 408) (by decide +kernel) rfl, zz_in (i := 30) (by decide +kernel) rfl, zz_in (i := 406) (by decide +kernel) rfl, zz_in (i := 407) (by decide +kernel) rfl, ⟨by decide, by decide, by decide +kernel⟩⟩
theorem k_Forge_registers : zz_Y1 y_Forge_registers b_Forge_registers 2 (some .boolean) 1 := ⟨zz_in (i := 412) (by decide +kernel) rfl, zz_in (i := 30) (by decide +kernel) rfl, zz_in (i := 410) (by decide +kernel) rfl, zz_in (i := 411) (by decide +kernel) rfl, ⟨by decide, by decide, by decide +kernel⟩⟩
theorem k_Forge_cover : zz_Y1 y_Forge_cover b_Forge_cover 1 (some .int) 0 := ⟨zz_in (i := 416) (by decide +kernel) rfl, zz_in (i := 30) (by decide +kernel) rfl, zz_in (i := 414) (by decide +kernel) rfl, zz_in (i := 415) (by decide +kernel) rfl, ⟨by decide, by decide, by decide +kernel⟩⟩
theorem k_Code_write : zz_Y1 y_Code_write b_Code_write 6 none 2 := ⟨zz_in (i := 420) (by decide +kernel) rfl, zz_in (i := 35) (by decide +kernel) rfl, zz_in (i := 418) (by decide +kernel) rfl, zz_in (i := 419) (by decide +kernel) rfl, ⟨by decide, by decide, by decide +kernel⟩⟩
theorem k_Code_chooseKinds : zz_Y1 y_Code_chooseKinds b_Code_chooseKinds 6 none 2 := ⟨zz_in (i := 424) (by decide +kernel) rfl, zz_in (i := 35) (by decide +kernel) rfl, zz_in (i := 423) (by decide +kernel) rfl, zz_in (i := 6) (by decide +kernel) rfl, ⟨by decide, by decide, by decide +kernel⟩⟩
theorem k_Code_followChoices : zz_Y1 y_Code_followChoices b_Code_followChoices 8 (some .int) 3 := ⟨zz_in (i := 429) (by decide +kernel) rfl, zz_in (i := 35) (by decide +kernel) rfl, zz_in (i := 428) (by decide +kernel) rfl, zz_in (i := 7) (by decide +kernel) rfl, ⟨by decide, by decide, by decide +kernel⟩⟩
theorem k_Code_writeOperator : zz_Y1 y_Code_writeOperator b_Code_writeOperator 7 none 3 := ⟨zz_in (i := 435) (by decide +kernel) rfl, zz_in (i := 35) (by decide +kernel) rfl, zz_in (i := 434) (by decide +kernel) rfl, zz_in (i := 8) (by decide +kernel) rfl, ⟨by decide, by decide, by decide +kernel⟩⟩
theorem k_Code_append : zz_Y1 y_Code_append b_Code_append 7 none 6 := ⟨zz_in (i := 439) (by decide +kernel) rfl, zz_in (i := 35) (by decide +kernel) rfl, zz_in (i := 438) (by decide +kernel) rfl, zz_in (i := 9) (by decide +kernel) rfl, ⟨by decide, by decide, by decide +kernel⟩⟩
theorem k_Code_givePlaces : zz_Y1 y_Code_givePlaces b_Code_givePlaces 4 none 1 := ⟨zz_in (i := 443) (by decide +kernel) rfl, zz_in (i := 35) (by decide +kernel) rfl, zz_in (i := 441) (by decide +kernel) rfl, zz_in (i := 442) (by decide +kernel) rfl, ⟨by decide, by decide, by decide +kernel⟩⟩
theorem k_Code_releaseUntil : zz_Y1 y_Code_releaseUntil b_Code_releaseUntil 4 none 2 := ⟨zz_in (i := 448) (by decide +kernel) rfl, zz_in (i := 35) (by decide +kernel) rfl, zz_in (i := 447) (by decide +kernel) rfl, zz_in (i := 10) (by decide +kernel) rfl, ⟨by decide, by decide, by decide +kernel⟩⟩
theorem k_Code_leastFree : zz_Y1 y_Code_leastFree b_Code_leastFree 3 (some .int) 1 := ⟨zz_in (i := 452) (by decide +kernel) rfl, zz_in (i := 35) (by decide +kernel) rfl, zz_in (i := 451) (by decide +kernel) rfl, zz_in (i := 11) (by decide +kernel) rfl, ⟨by decide, by decide, by decide +kernel⟩⟩
theorem k_Code_spillFor : zz_Y1 y_Code_spillFor b_Code_spillFor 5 none 2 := ⟨zz_in (i := 456) (by decide +kernel) rfl, zz_in (i := 35) (by decide +kernel) rfl, zz_in (i := 455) (by decide +kernel) rfl, zz_in (i := 12) (by decide +kernel) rfl, ⟨by decide, by decide, by decide +kernel⟩⟩
theorem k_Code_isNeededLonger : zz_Y1 y_Code_isNeededLonger b_Code_isNeededLonger 3 (some .boolean) 2 := ⟨zz_in (i := 460) (by decide +kernel) rfl, zz_in (i := 35) (by decide +kernel) rfl, zz_in (i := 459) (by decide +kernel) rfl, zz_in (i := 13) (by decide +kernel) rfl, ⟨by decide, by decide, by decide +kernel⟩⟩
theorem k_Forge_instruction : zz_Y1 y_Forge_instruction b_Forge_instruction 3 (some .int) 2 := ⟨zz_in (i := 464) (by decide +kernel) rfl, zz_in (i := 30) (by decide +kernel) rfl, zz_in (i := 462) (by decide +kernel) rfl, zz_in (i := 463) (by decide +kernel) rfl, ⟨by decide, by decide, by decide +kernel⟩⟩
theorem k_Code_tell : zz_Y1 y_Code_tell b_Code_tell 3 (some .int) 2 := ⟨zz_in (i := 468) (by decide +kernel) rfl, zz_in (i := 35) (by decide +kernel) rfl, zz_in (i := 466) (by decide +kernel) rfl, zz_in (i := 467) (by decide +kernel) rfl, ⟨by decide, by decide, by decide +kernel⟩⟩
theorem k_Code_placeOf : zz_Y1 y_Code_placeOf b_Code_placeOf 2 (some .int) 1 := ⟨zz_in (i := 472) (by decide +kernel) rfl, zz_in (i := 35) (by decide +kernel) rfl, zz_in (i := 471) (by decide +kernel) rfl, zz_in (i := 14) (by decide +kernel) rfl, ⟨by decide, by decide, by decide +kernel⟩⟩
theorem k_Forge_slots : zz_Y1 y_Forge_slots b_Forge_slots 1 (some .int) 0 := ⟨zz_in (i := 476) (by decide +kernel) rfl, zz_in (i := 30) (by decide +kernel) rfl, zz_in (i := 474) (by decide +kernel) rfl, zz_in (i := 475) (by decide +kernel) rfl, ⟨by decide, by decide, by decide +kernel⟩⟩
theorem k_Forge_set : zz_Y1 y_Forge_set b_Forge_set 3 (some .boolean) 2 := ⟨zz_in (i := 480) (by decide +kernel) rfl, zz_in (i := 30) (by decide +kernel) rfl, zz_in (i := 478) (by decide +kernel) rfl, zz_in (i := 479) (by decide +kernel) rfl, ⟨by decide, by decide, by decide +kernel⟩⟩
theorem k_Forge_run : zz_Y1 y_Forge_run b_Forge_run 1 (some .int) 0 := ⟨zz_in (i := 484) (by decide +kernel) rfl, zz_in (i := 30) (by decide +kernel) rfl, zz_in (i := 482) (by decide +kernel) rfl, zz_in (i := 483) (by decide +kernel) rfl, ⟨by decide, by decide, by decide +kernel⟩⟩
theorem k_Code_execute : zz_Y1 y_Code_execute b_Code_execute 5 (some .int) 1 := ⟨zz_in (i := 488) (by decide +kernel) rfl, zz_in (i := 35) (by decide +kernel) rfl, zz_in (i := 486) (by decide +kernel) rfl, zz_in (i := 487) (by decide +kernel) rfl, ⟨by decide, by decide, by decide +kernel⟩⟩
theorem k_Forge_resultOf : zz_Y0 y_Forge_resultOf b_Forge_resultOf 5 (some .int) 5 := ⟨zz_in (i := 491) (by decide +kernel) rfl, zz_in (i := 30) (by decide +kernel) rfl, zz_in (i := 490) (by decide +kernel) rfl, ⟨by decide, by decide, by decide +kernel⟩⟩
theorem k_Forge_value : zz_Y1 y_Forge_value b_Forge_value 1 (some .int) 0 := ⟨zz_in (i := 495) (by decide +kernel) rfl, zz_in (i := 30) (by decide +kernel) rfl, zz_in (i := 493) (by decide +kernel) rfl, zz_in (i := 494) (by decide +kernel) rfl, ⟨by decide, by decide, by decide +kernel⟩⟩
theorem k_Pile_evaluateTop : zz_Y1 y_Pile_evaluateTop b_Pile_evaluateTop 6 (some .int) 1 := ⟨zz_in (i := 499) (by decide +kernel) rfl, zz_in (i := 32) (by decide +kernel) rfl, zz_in (i := 497) (by decide +kernel) rfl, zz_in (i := 498) (by decide +kernel) rfl, ⟨by decide, by decide, by decide +kernel⟩⟩
theorem k_Model_rule : zz_Y1 y_Model_rule b_Model_rule 6 (some .int) 5 := ⟨zz_in (i := 628) (by decide +kernel) rfl, zz_in (i := 36) (by decide +kernel) rfl, zz_in (i := 626) (by decide +kernel) rfl, zz_in (i := 627) (by decide +kernel) rfl, ⟨by decide, by decide, by decide +kernel⟩⟩
theorem k_Model_outside : zz_Y0 y_Model_outside b_Model_outside 2 (some .boolean) 2 := ⟨zz_in (i := 631) (by decide +kernel) rfl, zz_in (i := 36) (by decide +kernel) rfl, zz_in (i := 630) (by decide +kernel) rfl, ⟨by decide, by decide, by decide +kernel⟩⟩
theorem k_Model_clear : zz_Y1 y_Model_clear b_Model_clear 1 none 0 := ⟨zz_in (i := 635) (by decide +kernel) rfl, zz_in (i := 36) (by decide +kernel) rfl, zz_in (i := 633) (by decide +kernel) rfl, zz_in (i := 634) (by decide +kernel) rfl, ⟨by decide, by decide, by decide +kernel⟩⟩
theorem k_Model_states : zz_Y1 y_Model_states b_Model_states 4 (some .int) 0 := ⟨zz_in (i := 639) (by decide +kernel) rfl, zz_in (i := 36) (by decide +kernel) rfl, zz_in (i := 637) (by decide +kernel) rfl, zz_in (i := 638) (by decide +kernel) rfl, ⟨by decide, by decide, by decide +kernel⟩⟩
theorem k_Model_combine : zz_Y1 y_Model_combine b_Model_combine 6 none 1 := ⟨zz_in (i := 643) (by decide +kernel) rfl, zz_in (i := 36) (by decide +kernel) rfl, zz_in (i := 642) (by decide +kernel) rfl, zz_in (i := 15) (by decide +kernel) rfl, ⟨by decide, by decide, by decide +kernel⟩⟩
theorem k_Model_through : zz_Y1 y_Model_through b_Model_through 6 (some .long) 2 := ⟨zz_in (i := 648) (by decide +kernel) rfl, zz_in (i := 36) (by decide +kernel) rfl, zz_in (i := 647) (by decide +kernel) rfl, zz_in (i := 16) (by decide +kernel) rfl, ⟨by decide, by decide, by decide +kernel⟩⟩
theorem k_Model_kids : zz_Y0 y_Model_kids b_Model_kids 1 (some .int) 1 := ⟨zz_in (i := 651) (by decide +kernel) rfl, zz_in (i := 36) (by decide +kernel) rfl, zz_in (i := 650) (by decide +kernel) rfl, ⟨by decide, by decide, by decide +kernel⟩⟩
theorem k_Model_known : zz_Y1 y_Model_known b_Model_known 8 (some .boolean) 0 := ⟨zz_in (i := 655) (by decide +kernel) rfl, zz_in (i := 36) (by decide +kernel) rfl, zz_in (i := 654) (by decide +kernel) rfl, zz_in (i := 17) (by decide +kernel) rfl, ⟨by decide, by decide, by decide +kernel⟩⟩
theorem k_Model_lowest : zz_Y1 y_Model_lowest b_Model_lowest 4 (some .long) 0 := ⟨zz_in (i := 659) (by decide +kernel) rfl, zz_in (i := 36) (by decide +kernel) rfl, zz_in (i := 658) (by decide +kernel) rfl, zz_in (i := 18) (by decide +kernel) rfl, ⟨by decide, by decide, by decide +kernel⟩⟩
theorem k_Model_reach : zz_Y1 y_Model_reach b_Model_reach 5 (some .boolean) 3 := ⟨zz_in (i := 663) (by decide +kernel) rfl, zz_in (i := 36) (by decide +kernel) rfl, zz_in (i := 662) (by decide +kernel) rfl, zz_in (i := 19) (by decide +kernel) rfl, ⟨by decide, by decide, by decide +kernel⟩⟩
theorem k_Model_push : zz_Y1 y_Model_push b_Model_push 6 (some .int) 2 := ⟨zz_in (i := 667) (by decide +kernel) rfl, zz_in (i := 36) (by decide +kernel) rfl, zz_in (i := 665) (by decide +kernel) rfl, zz_in (i := 666) (by decide +kernel) rfl, ⟨by decide, by decide, by decide +kernel⟩⟩
theorem k_Model_pop : zz_Y1 y_Model_pop b_Model_pop 1 (some .boolean) 0 := ⟨zz_in (i := 671) (by decide +kernel) rfl, zz_in (i := 36) (by decide +kernel) rfl, zz_in (i := 669) (by decide +kernel) rfl, zz_in (i := 670) (by decide +kernel) rfl, ⟨by decide, by decide, by decide +kernel⟩⟩
theorem k_Model_trees : zz_Y1 y_Model_trees b_Model_trees 1 (some .int) 0 := ⟨zz_in (i := 675) (by decide +kernel) rfl, zz_in (i := 36) (by decide +kernel) rfl, zz_in (i := 673) (by decide +kernel) rfl, zz_in (i := 674) (by decide +kernel) rfl, ⟨by decide, by decide, by decide +kernel⟩⟩
theorem k_Model_nodes : zz_Y1 y_Model_nodes b_Model_nodes 1 (some .int) 0 := ⟨zz_in (i := 679) (by decide +kernel) rfl, zz_in (i := 36) (by decide +kernel) rfl, zz_in (i := 677) (by decide +kernel) rfl, zz_in (i := 678) (by decide +kernel) rfl, ⟨by decide, by decide, by decide +kernel⟩⟩
theorem k_Model_relative : zz_Y1 y_Model_relative b_Model_relative 7 (some .int) 2 := ⟨zz_in (i := 683) (by decide +kernel) rfl, zz_in (i := 36) (by decide +kernel) rfl, zz_in (i := 681) (by decide +kernel) rfl, zz_in (i := 682) (by decide +kernel) rfl, ⟨by decide, by decide, by decide +kernel⟩⟩
theorem k_Model_noNode : zz_Y1 y_Model_noNode b_Model_noNode 3 (some .boolean) 2 := ⟨zz_in (i := 687) (by decide +kernel) rfl, zz_in (i := 36) (by decide +kernel) rfl, zz_in (i := 686) (by decide +kernel) rfl, zz_in (i := 20) (by decide +kernel) rfl, ⟨by decide, by decide, by decide +kernel⟩⟩
theorem k_Model_work : zz_Y1 y_Model_work b_Model_work 3 (some .boolean) 0 := ⟨zz_in (i := 692) (by decide +kernel) rfl, zz_in (i := 36) (by decide +kernel) rfl, zz_in (i := 691) (by decide +kernel) rfl, zz_in (i := 21) (by decide +kernel) rfl, ⟨by decide, by decide, by decide +kernel⟩⟩
theorem k_Model_takeKids : zz_Y1 y_Model_takeKids b_Model_takeKids 5 none 1 := ⟨zz_in (i := 696) (by decide +kernel) rfl, zz_in (i := 36) (by decide +kernel) rfl, zz_in (i := 695) (by decide +kernel) rfl, zz_in (i := 22) (by decide +kernel) rfl, ⟨by decide, by decide, by decide +kernel⟩⟩
theorem k_Model_choice : zz_Y1 y_Model_choice b_Model_choice 3 (some .int) 2 := ⟨zz_in (i := 700) (by decide +kernel) rfl, zz_in (i := 36) (by decide +kernel) rfl, zz_in (i := 698) (by decide +kernel) rfl, zz_in (i := 699) (by decide +kernel) rfl, ⟨by decide, by decide, by decide +kernel⟩⟩
theorem k_Model_cost : zz_Y1 y_Model_cost b_Model_cost 4 (some .int) 1 := ⟨zz_in (i := 704) (by decide +kernel) rfl, zz_in (i := 36) (by decide +kernel) rfl, zz_in (i := 702) (by decide +kernel) rfl, zz_in (i := 703) (by decide +kernel) rfl, ⟨by decide, by decide, by decide +kernel⟩⟩
theorem k_Model_registers : zz_Y1 y_Model_registers b_Model_registers 2 (some .boolean) 1 := ⟨zz_in (i := 708) (by decide +kernel) rfl, zz_in (i := 36) (by decide +kernel) rfl, zz_in (i := 706) (by decide +kernel) rfl, zz_in (i := 707) (by decide +kernel) rfl, ⟨by decide, by decide, by decide +kernel⟩⟩
theorem k_Model_cover : zz_Y1 y_Model_cover b_Model_cover 3 (some .int) 0 := ⟨zz_in (i := 712) (by decide +kernel) rfl, zz_in (i := 36) (by decide +kernel) rfl, zz_in (i := 710) (by decide +kernel) rfl, zz_in (i := 711) (by decide +kernel) rfl, ⟨by decide, by decide, by decide +kernel⟩⟩
theorem k_Model_want : zz_Y1 y_Model_want b_Model_want 6 none 1 := ⟨zz_in (i := 716) (by decide +kernel) rfl, zz_in (i := 36) (by decide +kernel) rfl, zz_in (i := 715) (by decide +kernel) rfl, zz_in (i := 23) (by decide +kernel) rfl, ⟨by decide, by decide, by decide +kernel⟩⟩
theorem k_Model_emit : zz_Y1 y_Model_emit b_Model_emit 8 none 2 := ⟨zz_in (i := 720) (by decide +kernel) rfl, zz_in (i := 36) (by decide +kernel) rfl, zz_in (i := 719) (by decide +kernel) rfl, zz_in (i := 24) (by decide +kernel) rfl, ⟨by decide, by decide, by decide +kernel⟩⟩
theorem k_Model_write : zz_Y1 y_Model_write b_Model_write 6 none 5 := ⟨zz_in (i := 724) (by decide +kernel) rfl, zz_in (i := 36) (by decide +kernel) rfl, zz_in (i := 723) (by decide +kernel) rfl, zz_in (i := 25) (by decide +kernel) rfl, ⟨by decide, by decide, by decide +kernel⟩⟩
theorem k_Model_settle : zz_Y1 y_Model_settle b_Model_settle 5 none 1 := ⟨zz_in (i := 728) (by decide +kernel) rfl, zz_in (i := 36) (by decide +kernel) rfl, zz_in (i := 727) (by decide +kernel) rfl, zz_in (i := 26) (by decide +kernel) rfl, ⟨by decide, by decide, by decide +kernel⟩⟩
theorem k_Model_holds : zz_Y1 y_Model_holds b_Model_holds 3 (some .boolean) 2 := ⟨zz_in (i := 732) (by decide +kernel) rfl, zz_in (i := 36) (by decide +kernel) rfl, zz_in (i := 731) (by decide +kernel) rfl, zz_in (i := 27) (by decide +kernel) rfl, ⟨by decide, by decide, by decide +kernel⟩⟩
theorem k_Model_instruction : zz_Y1 y_Model_instruction b_Model_instruction 4 (some .int) 2 := ⟨zz_in (i := 736) (by decide +kernel) rfl, zz_in (i := 36) (by decide +kernel) rfl, zz_in (i := 734) (by decide +kernel) rfl, zz_in (i := 735) (by decide +kernel) rfl, ⟨by decide, by decide, by decide +kernel⟩⟩
theorem k_Model_slots : zz_Y1 y_Model_slots b_Model_slots 1 (some .int) 0 := ⟨zz_in (i := 740) (by decide +kernel) rfl, zz_in (i := 36) (by decide +kernel) rfl, zz_in (i := 738) (by decide +kernel) rfl, zz_in (i := 739) (by decide +kernel) rfl, ⟨by decide, by decide, by decide +kernel⟩⟩
theorem k_Model_set : zz_Y1 y_Model_set b_Model_set 3 (some .boolean) 2 := ⟨zz_in (i := 744) (by decide +kernel) rfl, zz_in (i := 36) (by decide +kernel) rfl, zz_in (i := 742) (by decide +kernel) rfl, zz_in (i := 743) (by decide +kernel) rfl, ⟨by decide, by decide, by decide +kernel⟩⟩
theorem k_Model_run : zz_Y1 y_Model_run b_Model_run 4 (some .int) 0 := ⟨zz_in (i := 748) (by decide +kernel) rfl, zz_in (i := 36) (by decide +kernel) rfl, zz_in (i := 746) (by decide +kernel) rfl, zz_in (i := 747) (by decide +kernel) rfl, ⟨by decide, by decide, by decide +kernel⟩⟩
theorem k_Model_calculate : zz_Y1 y_Model_calculate b_Model_calculate 5 (some .int) 4 := ⟨zz_in (i := 752) (by decide +kernel) rfl, zz_in (i := 36) (by decide +kernel) rfl, zz_in (i := 751) (by decide +kernel) rfl, zz_in (i := 28) (by decide +kernel) rfl, ⟨by decide, by decide, by decide +kernel⟩⟩
theorem k_Model_value : zz_Y1 y_Model_value b_Model_value 4 (some .int) 0 := ⟨zz_in (i := 756) (by decide +kernel) rfl, zz_in (i := 36) (by decide +kernel) rfl, zz_in (i := 754) (by decide +kernel) rfl, zz_in (i := 755) (by decide +kernel) rfl, ⟨by decide, by decide, by decide +kernel⟩⟩
theorem w_mmax_code : Cond.code Lib.Math.max.name Lib.Math.max.code 2 (some .int) ∈ zz_tbl := zz_in (i := 352) (by decide +kernel) rfl
theorem w_mmax_st : Cond.static Lib.Math.max.name ∈ zz_tbl := zz_in (i := 351) (by decide +kernel) rfl
theorem w_mmin_code : Cond.code Lib.Math.min.name Lib.Math.min.code 2 (some .int) ∈ zz_tbl := zz_in (i := 372) (by decide +kernel) rfl
theorem w_mmin_st : Cond.static Lib.Math.min.name ∈ zz_tbl := zz_in (i := 371) (by decide +kernel) rfl
theorem w_math_ini : Cond.initialized "java/lang/Math" ∈ zz_tbl := zz_in (i := 38) (by decide +kernel) rfl
end
section
/-! The cells of the class's object (291 of them) and of the reference's (33): which cell is what. Laid by wip/whole/prog/names.py. -/
/-- class numbers, slots; addresses; the classes of int[], long[], Label[], int[][]; the table of arities -/
abbrev xg_T : Type := va_G × (Nat → Nat) × ClassId × ClassId × ClassId × ClassId × Nat
abbrev xg_cl : List vw_C := [(R_Forge, F_Forge, 6), (R_Book, F_Book, 8), (R_Label, F_Label, 2), (R_Table, F_Table, 4), (R_Pile, F_Pile, 10), (R_Code, F_Code, 15), (R_Model, F_Model, 39)]
abbrev xg_ty (q : xg_T) : List (ClassId × FieldType) := [(q.2.2.1, .int), (q.2.2.2.1, .long), (q.2.2.2.2.1, .object R_Label), (q.2.2.2.2.2.1, .array .int)]
def xy_L (q : xg_T) : zz_Y := fun c f g =>
  match c with
  | 0 => .inr (0, [.ref (q.2.1 1), .ref (q.2.1 18), .ref (q.2.1 25), .ref (q.2.1 27), .ref (q.2.1 41), .int (f 5)])
  | 1 => .inr (1, [.ref (q.2.1 2), .ref (q.2.1 3), .ref (q.2.1 4), .ref (q.2.1 5), .ref (q.2.1 6), .ref (q.2.1 7), .ref (q.2.1 8), .int (f 7)])
  | 2 => .inl (q.2.2.1, 24, .inl f)
  | 3 => .inl (q.2.2.1, 24, .inl f)
  | 4 => .inl (q.2.2.1, 24, .inl f)
  | 5 => .inl (q.2.2.1, 24, .inl f)
  | 6 => .inl (q.2.2.1, 24, .inl f)
  | 7 => .inl (q.2.2.2.2.2.1, 9, .inr (.inr (.inr (.inr (fun i => some (q.2.1 (9 + i)))))))
  | 8 => .inl (q.2.2.1, 9, .inl f)
  | 18 => .inr (4, [.ref (q.2.1 19), .ref (q.2.1 20), .ref (q.2.1 21), .ref (q.2.1 22), .ref (q.2.1 23), .ref (q.2.1 24), .ref (q.2.1 (42 + 3 * 40)), .int (f 7), .int (f 8), .int (f 9)])
  | 19 => .inl (q.2.2.1, 40, .inl f)
  | 20 => .inl (q.2.2.1, 40, .inl f)
  | 21 => .inl (q.2.2.1, 40, .inl f)
  | 22 => .inl (q.2.2.1, 40, .inl f)
  | 23 => .inl (q.2.2.1, 40, .inl f)
  | 24 => .inl (q.2.2.2.2.1, 40, .inr (.inr (.inr (.inr (fun i => some (q.2.1 (42 + 3 * i)))))))
  | 25 => .inr (3, [.ref (q.2.1 26), .ref (q.2.1 (42 + 3 * 41)), .int (f 2), .int (f 3)])
  | 26 => .inl (q.2.2.2.2.1, 41, .inr (.inr (.inr (.inr (fun i => some (q.2.1 (42 + 3 * (42 + i))))))))
  | 27 => .inr (5, [.ref (q.2.1 28), .ref (q.2.1 29), .ref (q.2.1 30), .ref (q.2.1 31), .ref (q.2.1 32), .ref (q.2.1 33), .ref (q.2.1 34), .ref (q.2.1 35), .ref (q.2.1 36), .ref (q.2.1 37), .ref (q.2.1 38), .ref (q.2.1 39), .ref (q.2.1 40), .int (f 13), .int (f 14)])
  | 28 => .inl (q.2.2.1, 160, .inl f)
  | 29 => .inl (q.2.2.1, 160, .inl f)
  | 30 => .inl (q.2.2.1, 160, .inl f)
  | 31 => .inl (q.2.2.1, 160, .inl f)
  | 32 => .inl (q.2.2.1, 160, .inl f)
  | 33 => .inl (q.2.2.1, 160, .inl f)
  | 34 => .inl (q.2.2.1, 160, .inl f)
  | 35 => .inl (q.2.2.1, 160, .inl f)
  | 36 => .inl (q.2.2.1, 164, .inl f)
  | 37 => .inl (q.2.2.1, 4, .inl f)
  | 38 => .inl (q.2.2.1, 40, .inl f)
  | 39 => .inl (q.2.2.1, 40, .inl f)
  | 40 => .inl (q.2.2.1, 4, .inl f)
  | _ => .inl (q.2.2.1, 8, .inl f)
def xy_Y (q : xg_T) : zz_Y := fun c f g =>
  if 42 ≤ c then
    if (c - 42) % 3 = 0 then .inr (2, [.ref (q.2.1 (c + 1)), .ref (q.2.1 (c + 2))])
    else if (c - 42) % 3 = 1 then .inl (q.2.2.2.1, 4, .inr (.inl g))
    else .inl (q.2.2.1, 4, .inl f)
  else if 9 ≤ c ∧ c < 18 then .inl (q.2.2.1, 24, .inl f)
  else xy_L q c f g
def xg_G (q : xg_T) : zz_G := (q.1, xg_cl, xg_ty q, 291, q.2.1, xy_Y q, q.2.2.2.2.2.2)
theorem xc_0 (q : xg_T) (f : Nat → Int32) (g : Nat → Int64) : zz_y (xg_G q) 0 f g = .inr (0, [.ref (zz_ad (xg_G q) 1), .ref (zz_ad (xg_G q) 18), .ref (zz_ad (xg_G q) 25), .ref (zz_ad (xg_G q) 27), .ref (zz_ad (xg_G q) 41), .int (f 5)]) := rfl
theorem xc_1 (q : xg_T) (f : Nat → Int32) (g : Nat → Int64) : zz_y (xg_G q) 1 f g = .inr (1, [.ref (zz_ad (xg_G q) 2), .ref (zz_ad (xg_G q) 3), .ref (zz_ad (xg_G q) 4), .ref (zz_ad (xg_G q) 5), .ref (zz_ad (xg_G q) 6), .ref (zz_ad (xg_G q) 7), .ref (zz_ad (xg_G q) 8), .int (f 7)]) := rfl
theorem xc_2 (q : xg_T) (f : Nat → Int32) (g : Nat → Int64) : zz_y (xg_G q) 2 f g = .inl (q.2.2.1, 24, .inl f) := rfl
theorem xc_3 (q : xg_T) (f : Nat → Int32) (g : Nat → Int64) : zz_y (xg_G q) 3 f g = .inl (q.2.2.1, 24, .inl f) := rfl
theorem xc_4 (q : xg_T) (f : Nat → Int32) (g : Nat → Int64) : zz_y (xg_G q) 4 f g = .inl (q.2.2.1, 24, .inl f) := rfl
theorem xc_5 (q : xg_T) (f : Nat → Int32) (g : Nat → Int64) : zz_y (xg_G q) 5 f g = .inl (q.2.2.1, 24, .inl f) := rfl
theorem xc_6 (q : xg_T) (f : Nat → Int32) (g : Nat → Int64) : zz_y (xg_G q) 6 f g = .inl (q.2.2.1, 24, .inl f) := rfl
theorem xc_7 (q : xg_T) (f : Nat → Int32) (g : Nat → Int64) : zz_y (xg_G q) 7 f g = .inl (q.2.2.2.2.2.1, 9, .inr (.inr (.inr (.inr (fun i => some (zz_ad (xg_G q) (9 + i))))))) := rfl
theorem xc_8 (q : xg_T) (f : Nat → Int32) (g : Nat → Int64) : zz_y (xg_G q) 8 f g = .inl (q.2.2.1, 9, .inl f) := rfl
theorem xc_9 (q : xg_T) (f : Nat → Int32) (g : Nat → Int64) : zz_y (xg_G q) 9 f g = .inl (q.2.2.1, 24, .inl f) := rfl
theorem xc_10 (q : xg_T) (f : Nat → Int32) (g : Nat → Int64) : zz_y (xg_G q) 10 f g = .inl (q.2.2.1, 24, .inl f) := rfl
theorem xc_11 (q : xg_T) (f : Nat → Int32) (g : Nat → Int64) : zz_y (xg_G q) 11 f g = .inl (q.2.2.1, 24, .inl f) := rfl
theorem xc_12 (q : xg_T) (f : Nat → Int32) (g : Nat → Int64) : zz_y (xg_G q) 12 f g = .inl (q.2.2.1, 24, .inl f) := rfl
theorem xc_13 (q : xg_T) (f : Nat → Int32) (g : Nat → Int64) : zz_y (xg_G q) 13 f g = .inl (q.2.2.1, 24, .inl f) := rfl
theorem xc_14 (q : xg_T) (f : Nat → Int32) (g : Nat → Int64) : zz_y (xg_G q) 14 f g = .inl (q.2.2.1, 24, .inl f) := rfl
theorem xc_15 (q : xg_T) (f : Nat → Int32) (g : Nat → Int64) : zz_y (xg_G q) 15 f g = .inl (q.2.2.1, 24, .inl f) := rfl
theorem xc_16 (q : xg_T) (f : Nat → Int32) (g : Nat → Int64) : zz_y (xg_G q) 16 f g = .inl (q.2.2.1, 24, .inl f) := rfl
theorem xc_17 (q : xg_T) (f : Nat → Int32) (g : Nat → Int64) : zz_y (xg_G q) 17 f g = .inl (q.2.2.1, 24, .inl f) := rfl
theorem xc_18 (q : xg_T) (f : Nat → Int32) (g : Nat → Int64) : zz_y (xg_G q) 18 f g = .inr (4, [.ref (zz_ad (xg_G q) 19), .ref (zz_ad (xg_G q) 20), .ref (zz_ad (xg_G q) 21), .ref (zz_ad (xg_G q) 22), .ref (zz_ad (xg_G q) 23), .ref (zz_ad (xg_G q) 24), .ref (zz_ad (xg_G q) (42 + 3 * 40)), .int (f 7), .int (f 8), .int (f 9)]) := rfl
theorem xc_19 (q : xg_T) (f : Nat → Int32) (g : Nat → Int64) : zz_y (xg_G q) 19 f g = .inl (q.2.2.1, 40, .inl f) := rfl
theorem xc_20 (q : xg_T) (f : Nat → Int32) (g : Nat → Int64) : zz_y (xg_G q) 20 f g = .inl (q.2.2.1, 40, .inl f) := rfl
theorem xc_21 (q : xg_T) (f : Nat → Int32) (g : Nat → Int64) : zz_y (xg_G q) 21 f g = .inl (q.2.2.1, 40, .inl f) := rfl
theorem xc_22 (q : xg_T) (f : Nat → Int32) (g : Nat → Int64) : zz_y (xg_G q) 22 f g = .inl (q.2.2.1, 40, .inl f) := rfl
theorem xc_23 (q : xg_T) (f : Nat → Int32) (g : Nat → Int64) : zz_y (xg_G q) 23 f g = .inl (q.2.2.1, 40, .inl f) := rfl
theorem xc_24 (q : xg_T) (f : Nat → Int32) (g : Nat → Int64) : zz_y (xg_G q) 24 f g = .inl (q.2.2.2.2.1, 40, .inr (.inr (.inr (.inr (fun i => some (zz_ad (xg_G q) (42 + 3 * i))))))) := rfl
theorem xc_25 (q : xg_T) (f : Nat → Int32) (g : Nat → Int64) : zz_y (xg_G q) 25 f g = .inr (3, [.ref (zz_ad (xg_G q) 26), .ref (zz_ad (xg_G q) (42 + 3 * 41)), .int (f 2), .int (f 3)]) := rfl
theorem xc_26 (q : xg_T) (f : Nat → Int32) (g : Nat → Int64) : zz_y (xg_G q) 26 f g = .inl (q.2.2.2.2.1, 41, .inr (.inr (.inr (.inr (fun i => some (zz_ad (xg_G q) (42 + 3 * (42 + i)))))))) := rfl
theorem xc_27 (q : xg_T) (f : Nat → Int32) (g : Nat → Int64) : zz_y (xg_G q) 27 f g = .inr (5, [.ref (zz_ad (xg_G q) 28), .ref (zz_ad (xg_G q) 29), .ref (zz_ad (xg_G q) 30), .ref (zz_ad (xg_G q) 31), .ref (zz_ad (xg_G q) 32), .ref (zz_ad (xg_G q) 33), .ref (zz_ad (xg_G q) 34), .ref (zz_ad (xg_G q) 35), .ref (zz_ad (xg_G q) 36), .ref (zz_ad (xg_G q) 37), .ref (zz_ad (xg_G q) 38), .ref (zz_ad (xg_G q) 39), .ref (zz_ad (xg_G q) 40), .int (f 13), .int (f 14)]) := rfl
theorem xc_28 (q : xg_T) (f : Nat → Int32) (g : Nat → Int64) : zz_y (xg_G q) 28 f g = .inl (q.2.2.1, 160, .inl f) := rfl
theorem xc_29 (q : xg_T) (f : Nat → Int32) (g : Nat → Int64) : zz_y (xg_G q) 29 f g = .inl (q.2.2.1, 160, .inl f) := rfl
theorem xc_30 (q : xg_T) (f : Nat → Int32) (g : Nat → Int64) : zz_y (xg_G q) 30 f g = .inl (q.2.2.1, 160, .inl f) := rfl
theorem xc_31 (q : xg_T) (f : Nat → Int32) (g : Nat → Int64) : zz_y (xg_G q) 31 f g = .inl (q.2.2.1, 160, .inl f) := rfl
theorem xc_32 (q : xg_T) (f : Nat → Int32) (g : Nat → Int64) : zz_y (xg_G q) 32 f g = .inl (q.2.2.1, 160, .inl f) := rfl
theorem xc_33 (q : xg_T) (f : Nat → Int32) (g : Nat → Int64) : zz_y (xg_G q) 33 f g = .inl (q.2.2.1, 160, .inl f) := rfl
theorem xc_34 (q : xg_T) (f : Nat → Int32) (g : Nat → Int64) : zz_y (xg_G q) 34 f g = .inl (q.2.2.1, 160, .inl f) := rfl
theorem xc_35 (q : xg_T) (f : Nat → Int32) (g : Nat → Int64) : zz_y (xg_G q) 35 f g = .inl (q.2.2.1, 160, .inl f) := rfl
theorem xc_36 (q : xg_T) (f : Nat → Int32) (g : Nat → Int64) : zz_y (xg_G q) 36 f g = .inl (q.2.2.1, 164, .inl f) := rfl
theorem xc_37 (q : xg_T) (f : Nat → Int32) (g : Nat → Int64) : zz_y (xg_G q) 37 f g = .inl (q.2.2.1, 4, .inl f) := rfl
theorem xc_38 (q : xg_T) (f : Nat → Int32) (g : Nat → Int64) : zz_y (xg_G q) 38 f g = .inl (q.2.2.1, 40, .inl f) := rfl
theorem xc_39 (q : xg_T) (f : Nat → Int32) (g : Nat → Int64) : zz_y (xg_G q) 39 f g = .inl (q.2.2.1, 40, .inl f) := rfl
theorem xc_40 (q : xg_T) (f : Nat → Int32) (g : Nat → Int64) : zz_y (xg_G q) 40 f g = .inl (q.2.2.1, 4, .inl f) := rfl
theorem xc_41 (q : xg_T) (f : Nat → Int32) (g : Nat → Int64) : zz_y (xg_G q) 41 f g = .inl (q.2.2.1, 8, .inl f) := rfl
theorem xy_lab (q : xg_T) (j : Nat) (f : Nat → Int32) (g : Nat → Int64) : zz_y (xg_G q) (42 + 3 * j) f g = .inr (2, [.ref (zz_ad (xg_G q) (42 + 3 * j + 1)), .ref (zz_ad (xg_G q) (42 + 3 * j + 2))]) := by
  show xy_Y q (42 + 3 * j) f g = _
  rw [xy_Y, if_pos (by omega), if_pos (by omega)]
  rfl
theorem xy_cost (q : xg_T) (j : Nat) (f : Nat → Int32) (g : Nat → Int64) : zz_y (xg_G q) (42 + 3 * j + 1) f g = .inl (q.2.2.2.1, 4, .inr (.inl g)) := by
  show xy_Y q (42 + 3 * j + 1) f g = _
  rw [xy_Y, if_pos (by omega), if_neg (by omega), if_pos (by omega)]
theorem xy_choi (q : xg_T) (j : Nat) (f : Nat → Int32) (g : Nat → Int64) : zz_y (xg_G q) (42 + 3 * j + 2) f g = .inl (q.2.2.1, 4, .inl f) := by
  show xy_Y q (42 + 3 * j + 2) f g = _
  rw [xy_Y, if_pos (by omega), if_neg (by omega), if_neg (by omega)]
theorem xy_row (q : xg_T) (o : Nat) (ho : o < 9) (f : Nat → Int32) (g : Nat → Int64) : zz_y (xg_G q) (9 + o) f g = .inl (q.2.2.1, 24, .inl f) := by
  show xy_Y q (9 + o) f g = _
  rw [xy_Y, if_neg (by omega), if_pos (by omega)]
def my_Y (q : xg_T) : zz_Y := fun c f g =>
  match c with
  | 0 => .inr (6, [.int (f 0), .ref (q.2.1 1), .ref (q.2.1 2), .ref (q.2.1 3), .ref (q.2.1 4), .ref (q.2.1 5), .int (f 6), .ref (q.2.1 6), .ref (q.2.1 7), .ref (q.2.1 8), .ref (q.2.1 9), .int (f 11), .ref (q.2.1 10), .ref (q.2.1 11), .ref (q.2.1 12), .ref (q.2.1 13), .ref (q.2.1 14), .ref (q.2.1 15), .ref (q.2.1 16), .int (f 19), .ref (q.2.1 17), .ref (q.2.1 18), .int (f 22), .int (f 23), .int (f 24), .ref (q.2.1 19), .ref (q.2.1 20), .ref (q.2.1 21), .ref (q.2.1 22), .ref (q.2.1 23), .ref (q.2.1 24), .ref (q.2.1 25), .ref (q.2.1 26), .ref (q.2.1 27), .ref (q.2.1 28), .ref (q.2.1 29), .ref (q.2.1 30), .ref (q.2.1 31), .ref (q.2.1 32)])
  | 1 => .inl (q.2.2.1, 24, .inl f)
  | 2 => .inl (q.2.2.1, 24, .inl f)
  | 3 => .inl (q.2.2.1, 24, .inl f)
  | 4 => .inl (q.2.2.1, 24, .inl f)
  | 5 => .inl (q.2.2.1, 24, .inl f)
  | 6 => .inl (q.2.2.1, 40, .inl f)
  | 7 => .inl (q.2.2.1, 40, .inl f)
  | 8 => .inl (q.2.2.1, 40, .inl f)
  | 9 => .inl (q.2.2.1, 40, .inl f)
  | 10 => .inl (q.2.2.1, 40, .inl f)
  | 11 => .inl (q.2.2.2.1, 160, .inr (.inl g))
  | 12 => .inl (q.2.2.1, 160, .inl f)
  | 13 => .inl (q.2.2.2.1, 4, .inr (.inl g))
  | 14 => .inl (q.2.2.2.1, 4, .inr (.inl g))
  | 15 => .inl (q.2.2.2.1, 4, .inr (.inl g))
  | 16 => .inl (q.2.2.1, 4, .inl f)
  | 17 => .inl (q.2.2.2.1, 164, .inr (.inl g))
  | 18 => .inl (q.2.2.1, 164, .inl f)
  | 19 => .inl (q.2.2.1, 160, .inl f)
  | 20 => .inl (q.2.2.1, 160, .inl f)
  | 21 => .inl (q.2.2.1, 160, .inl f)
  | 22 => .inl (q.2.2.1, 160, .inl f)
  | 23 => .inl (q.2.2.1, 160, .inl f)
  | 24 => .inl (q.2.2.1, 160, .inl f)
  | 25 => .inl (q.2.2.1, 160, .inl f)
  | 26 => .inl (q.2.2.1, 160, .inl f)
  | 27 => .inl (q.2.2.1, 160, .inl f)
  | 28 => .inl (q.2.2.1, 40, .inl f)
  | 29 => .inl (q.2.2.1, 40, .inl f)
  | 30 => .inl (q.2.2.1, 8, .inl f)
  | 31 => .inl (q.2.2.1, 8, .inl f)
  | _ => .inl (q.2.2.1, 40, .inl f)
def mg_G (q : xg_T) : zz_G := (q.1, xg_cl, xg_ty q, 33, q.2.1, my_Y q, q.2.2.2.2.2.2)
theorem mc_0 (q : xg_T) (f : Nat → Int32) (g : Nat → Int64) : zz_y (mg_G q) 0 f g = .inr (6, [.int (f 0), .ref (zz_ad (mg_G q) 1), .ref (zz_ad (mg_G q) 2), .ref (zz_ad (mg_G q) 3), .ref (zz_ad (mg_G q) 4), .ref (zz_ad (mg_G q) 5), .int (f 6), .ref (zz_ad (mg_G q) 6), .ref (zz_ad (mg_G q) 7), .ref (zz_ad (mg_G q) 8), .ref (zz_ad (mg_G q) 9), .int (f 11), .ref (zz_ad (mg_G q) 10), .ref (zz_ad (mg_G q) 11), .ref (zz_ad (mg_G q) 12), .ref (zz_ad (mg_G q) 13), .ref (zz_ad (mg_G q) 14), .ref (zz_ad (mg_G q) 15), .ref (zz_ad (mg_G q) 16), .int (f 19), .ref (zz_ad (mg_G q) 17), .ref (zz_ad (mg_G q) 18), .int (f 22), .int (f 23), .int (f 24), .ref (zz_ad (mg_G q) 19), .ref (zz_ad (mg_G q) 20), .ref (zz_ad (mg_G q) 21), .ref (zz_ad (mg_G q) 22), .ref (zz_ad (mg_G q) 23), .ref (zz_ad (mg_G q) 24), .ref (zz_ad (mg_G q) 25), .ref (zz_ad (mg_G q) 26), .ref (zz_ad (mg_G q) 27), .ref (zz_ad (mg_G q) 28), .ref (zz_ad (mg_G q) 29), .ref (zz_ad (mg_G q) 30), .ref (zz_ad (mg_G q) 31), .ref (zz_ad (mg_G q) 32)]) := rfl
theorem mc_1 (q : xg_T) (f : Nat → Int32) (g : Nat → Int64) : zz_y (mg_G q) 1 f g = .inl (q.2.2.1, 24, .inl f) := rfl
theorem mc_2 (q : xg_T) (f : Nat → Int32) (g : Nat → Int64) : zz_y (mg_G q) 2 f g = .inl (q.2.2.1, 24, .inl f) := rfl
theorem mc_3 (q : xg_T) (f : Nat → Int32) (g : Nat → Int64) : zz_y (mg_G q) 3 f g = .inl (q.2.2.1, 24, .inl f) := rfl
theorem mc_4 (q : xg_T) (f : Nat → Int32) (g : Nat → Int64) : zz_y (mg_G q) 4 f g = .inl (q.2.2.1, 24, .inl f) := rfl
theorem mc_5 (q : xg_T) (f : Nat → Int32) (g : Nat → Int64) : zz_y (mg_G q) 5 f g = .inl (q.2.2.1, 24, .inl f) := rfl
theorem mc_6 (q : xg_T) (f : Nat → Int32) (g : Nat → Int64) : zz_y (mg_G q) 6 f g = .inl (q.2.2.1, 40, .inl f) := rfl
theorem mc_7 (q : xg_T) (f : Nat → Int32) (g : Nat → Int64) : zz_y (mg_G q) 7 f g = .inl (q.2.2.1, 40, .inl f) := rfl
theorem mc_8 (q : xg_T) (f : Nat → Int32) (g : Nat → Int64) : zz_y (mg_G q) 8 f g = .inl (q.2.2.1, 40, .inl f) := rfl
theorem mc_9 (q : xg_T) (f : Nat → Int32) (g : Nat → Int64) : zz_y (mg_G q) 9 f g = .inl (q.2.2.1, 40, .inl f) := rfl
theorem mc_10 (q : xg_T) (f : Nat → Int32) (g : Nat → Int64) : zz_y (mg_G q) 10 f g = .inl (q.2.2.1, 40, .inl f) := rfl
theorem mc_11 (q : xg_T) (f : Nat → Int32) (g : Nat → Int64) : zz_y (mg_G q) 11 f g = .inl (q.2.2.2.1, 160, .inr (.inl g)) := rfl
theorem mc_12 (q : xg_T) (f : Nat → Int32) (g : Nat → Int64) : zz_y (mg_G q) 12 f g = .inl (q.2.2.1, 160, .inl f) := rfl
theorem mc_13 (q : xg_T) (f : Nat → Int32) (g : Nat → Int64) : zz_y (mg_G q) 13 f g = .inl (q.2.2.2.1, 4, .inr (.inl g)) := rfl
theorem mc_14 (q : xg_T) (f : Nat → Int32) (g : Nat → Int64) : zz_y (mg_G q) 14 f g = .inl (q.2.2.2.1, 4, .inr (.inl g)) := rfl
theorem mc_15 (q : xg_T) (f : Nat → Int32) (g : Nat → Int64) : zz_y (mg_G q) 15 f g = .inl (q.2.2.2.1, 4, .inr (.inl g)) := rfl
theorem mc_16 (q : xg_T) (f : Nat → Int32) (g : Nat → Int64) : zz_y (mg_G q) 16 f g = .inl (q.2.2.1, 4, .inl f) := rfl
theorem mc_17 (q : xg_T) (f : Nat → Int32) (g : Nat → Int64) : zz_y (mg_G q) 17 f g = .inl (q.2.2.2.1, 164, .inr (.inl g)) := rfl
theorem mc_18 (q : xg_T) (f : Nat → Int32) (g : Nat → Int64) : zz_y (mg_G q) 18 f g = .inl (q.2.2.1, 164, .inl f) := rfl
theorem mc_19 (q : xg_T) (f : Nat → Int32) (g : Nat → Int64) : zz_y (mg_G q) 19 f g = .inl (q.2.2.1, 160, .inl f) := rfl
theorem mc_20 (q : xg_T) (f : Nat → Int32) (g : Nat → Int64) : zz_y (mg_G q) 20 f g = .inl (q.2.2.1, 160, .inl f) := rfl
theorem mc_21 (q : xg_T) (f : Nat → Int32) (g : Nat → Int64) : zz_y (mg_G q) 21 f g = .inl (q.2.2.1, 160, .inl f) := rfl
theorem mc_22 (q : xg_T) (f : Nat → Int32) (g : Nat → Int64) : zz_y (mg_G q) 22 f g = .inl (q.2.2.1, 160, .inl f) := rfl
theorem mc_23 (q : xg_T) (f : Nat → Int32) (g : Nat → Int64) : zz_y (mg_G q) 23 f g = .inl (q.2.2.1, 160, .inl f) := rfl
theorem mc_24 (q : xg_T) (f : Nat → Int32) (g : Nat → Int64) : zz_y (mg_G q) 24 f g = .inl (q.2.2.1, 160, .inl f) := rfl
theorem mc_25 (q : xg_T) (f : Nat → Int32) (g : Nat → Int64) : zz_y (mg_G q) 25 f g = .inl (q.2.2.1, 160, .inl f) := rfl
theorem mc_26 (q : xg_T) (f : Nat → Int32) (g : Nat → Int64) : zz_y (mg_G q) 26 f g = .inl (q.2.2.1, 160, .inl f) := rfl
theorem mc_27 (q : xg_T) (f : Nat → Int32) (g : Nat → Int64) : zz_y (mg_G q) 27 f g = .inl (q.2.2.1, 160, .inl f) := rfl
theorem mc_28 (q : xg_T) (f : Nat → Int32) (g : Nat → Int64) : zz_y (mg_G q) 28 f g = .inl (q.2.2.1, 40, .inl f) := rfl
theorem mc_29 (q : xg_T) (f : Nat → Int32) (g : Nat → Int64) : zz_y (mg_G q) 29 f g = .inl (q.2.2.1, 40, .inl f) := rfl
theorem mc_30 (q : xg_T) (f : Nat → Int32) (g : Nat → Int64) : zz_y (mg_G q) 30 f g = .inl (q.2.2.1, 8, .inl f) := rfl
theorem mc_31 (q : xg_T) (f : Nat → Int32) (g : Nat → Int64) : zz_y (mg_G q) 31 f g = .inl (q.2.2.1, 8, .inl f) := rfl
theorem mc_32 (q : xg_T) (f : Nat → Int32) (g : Nat → Int64) : zz_y (mg_G q) 32 f g = .inl (q.2.2.1, 40, .inl f) := rfl
end
section
/-! The least costs of a node out of those of its kids: what both sides work out, as one relation with one answer. Kinds are 0 .. 3; mx_far stands for 'no cover'. A rule is (kind, op, a, b, cost). -/
def mx_far : Nat := 1125899906842624
abbrev mx_R : Type := Nat → Nat × Nat × Nat × Nat × Nat
def mx_th (rl : mx_R) (o : Nat) (lf rt g : Nat → Nat) (r : Nat) : Nat :=
  if (rl r).2.1 = 8 then (rl r).2.2.2.2 + g (rl r).2.2.1
  else if (rl r).2.1 = o then (rl r).2.2.2.2 + (if 0 < zz_kd o then lf (rl r).2.2.1 else 0) + (if 1 < zz_kd o then rt (rl r).2.2.2.1 else 0)
  else mx_far
def mx_ok (rl : mx_R) (R : Nat) : Prop := ∀ r, r < R → (rl r).1 < 4 ∧ (rl r).2.1 ≤ 8 ∧ (rl r).2.2.1 < 4 ∧ (rl r).2.2.2.1 < 4 ∧ (rl r).2.2.2.2 ≤ 9 ∧ ((rl r).2.1 = 8 → 1 ≤ (rl r).2.2.2.2)
def mx_Sol (rl : mx_R) (R o : Nat) (lf rt g : Nat → Nat) : Prop :=
  (∀ k, k < 4 → g k ≤ mx_far) ∧ (∀ r, r < R → g (rl r).1 ≤ mx_th rl o lf rt g r) ∧ ∀ k, k < 4 → g k < mx_far → ∃ r, r < R ∧ (rl r).1 = k ∧ mx_th rl o lf rt g r = g k
def mx_Lab (rl : mx_R) (R o : Nat) (lf rt g q : Nat → Nat) : Prop :=
  mx_Sol rl R o lf rt g ∧ ∀ k, k < 4 → (g k < mx_far → q k < R ∧ (rl (q k)).1 = k ∧ mx_th rl o lf rt g (q k) = g k ∧ ∀ r, r < R → (rl r).1 = k → mx_th rl o lf rt g r = g k → q k ≤ r) ∧ (¬ g k < mx_far → q k = 24)
section MX
variable {rl : mx_R} {R o : Nat} {lf rt g g' q q' : Nat → Nat}
theorem mx_th_ch {r : Nat} (h : (rl r).2.1 = 8) : mx_th rl o lf rt g r = (rl r).2.2.2.2 + g (rl r).2.2.1 := by
  rw [mx_th, if_pos h]
theorem mx_th_op {r : Nat} (h : (rl r).2.1 ≠ 8) : mx_th rl o lf rt g r = mx_th rl o lf rt g' r := by
  rw [mx_th, mx_th, if_neg h, if_neg h]
theorem mx_th_mono (hok : mx_ok rl R) {r : Nat} (hr : r < R) (h : ∀ k, k < 4 → g k ≤ g' k) : mx_th rl o lf rt g r ≤ mx_th rl o lf rt g' r := by
  by_cases h8 : (rl r).2.1 = 8
  · rw [mx_th_ch h8, mx_th_ch h8]
    have := h _ (hok r hr).2.2.1
    omega
  · rw [mx_th_op (g' := g') h8]
    exact Nat.le_refl _
theorem mx_th_congr (hok : mx_ok rl R) {r : Nat} (hr : r < R) (h : ∀ k, k < 4 → g k = g' k) : mx_th rl o lf rt g r = mx_th rl o lf rt g' r :=
  Nat.le_antisymm (mx_th_mono hok hr (fun k hk => Nat.le_of_eq (h k hk))) (mx_th_mono hok hr (fun k hk => Nat.le_of_eq (h k hk).symm))
theorem mx_sol_le (hok : mx_ok rl R) (h : mx_Sol rl R o lf rt g) (h' : mx_Sol rl R o lf rt g') : ∀ v k, k < 4 → g k = v → g k < mx_far → g' k ≤ g k := by
  intro v
  induction v using Nat.strongRecOn with
  | ind v ih =>
    intro k hk hv hf
    obtain ⟨r, hr, hm, ht⟩ := h.2.2 k hk hf
    have h1 := h'.2.1 r hr
    rw [hm] at h1
    by_cases h8 : (rl r).2.1 = 8
    · rw [mx_th_ch h8] at ht h1
      have hp := (hok r hr).2.2.2.2.2 h8
      have hj := (hok r hr).2.2.1
      have := ih (g (rl r).2.2.1) (by omega) _ hj rfl (by omega)
      omega
    · rw [mx_th_op (g' := g) h8] at h1
      omega
theorem mx_sol_uniq (hok : mx_ok rl R) (h : mx_Sol rl R o lf rt g) (h' : mx_Sol rl R o lf rt g') (k : Nat) (hk : k < 4) : g k = g' k := by
  have a1 := mx_sol_le hok h h' (g k) k hk rfl
  have a2 := mx_sol_le hok h' h (g' k) k hk rfl
  have b1 := h.1 k hk
  have b2 := h'.1 k hk
  by_cases c1 : g k < mx_far
  · have := a1 c1
    have := a2 (by omega)
    omega
  · by_cases c2 : g' k < mx_far
    · have := a2 c2
      omega
    · omega
theorem mx_lab_uniq (hok : mx_ok rl R) (h : mx_Lab rl R o lf rt g q) (h' : mx_Lab rl R o lf rt g' q') (k : Nat) (hk : k < 4) : g k = g' k ∧ q k = q' k := by
  have e := mx_sol_uniq hok h.1 h'.1
  refine ⟨e k hk, ?_⟩
  by_cases c1 : g k < mx_far
  · obtain ⟨x1, x2, x3, x4⟩ := (h.2 k hk).1 c1
    obtain ⟨y1, y2, y3, y4⟩ := (h'.2 k hk).1 (by rw [← e k hk]; exact c1)
    have z1 := x4 (q' k) y1 y2 (by rw [mx_th_congr hok y1 e, y3, e k hk])
    have z2 := y4 (q k) x1 x2 (by rw [← mx_th_congr hok x1 e, x3, e k hk])
    omega
  · rw [(h.2 k hk).2 c1, (h'.2 k hk).2 (by rw [← e k hk]; exact c1)]
/-- one turn over the rules that P takes, in their order -/
def mx_sw (rl : mx_R) (o : Nat) (lf rt : Nat → Nat) (P : Nat → Bool) (g0 : Nat → Nat) : Nat → Nat → Nat
  | 0 => g0
  | n + 1 => fun k => if P n = true ∧ k = (rl n).1 ∧ mx_th rl o lf rt (mx_sw rl o lf rt P g0 n) n < mx_sw rl o lf rt P g0 n k then mx_th rl o lf rt (mx_sw rl o lf rt P g0 n) n else mx_sw rl o lf rt P g0 n k
variable {P : Nat → Bool} {g0 : Nat → Nat}
theorem mx_sw_s (n k : Nat) : mx_sw rl o lf rt P g0 (n + 1) k = if P n = true ∧ k = (rl n).1 ∧ mx_th rl o lf rt (mx_sw rl o lf rt P g0 n) n < mx_sw rl o lf rt P g0 n k then mx_th rl o lf rt (mx_sw rl o lf rt P g0 n) n else mx_sw rl o lf rt P g0 n k := rfl
theorem mx_sw_dec (n k : Nat) : mx_sw rl o lf rt P g0 (n + 1) k ≤ mx_sw rl o lf rt P g0 n k := by
  rw [mx_sw_s]
  split
  · omega
  · exact Nat.le_refl _
theorem mx_sw_le {n n' : Nat} (h : n ≤ n') (k : Nat) : mx_sw rl o lf rt P g0 n' k ≤ mx_sw rl o lf rt P g0 n k := by
  induction h with
  | refl => exact Nat.le_refl _
  | step _ ih => exact Nat.le_trans (mx_sw_dec _ k) ih
theorem mx_sw_le0 (n k : Nat) : mx_sw rl o lf rt P g0 n k ≤ g0 k := mx_sw_le (Nat.zero_le n) k
theorem mx_sw_a {n r : Nat} (h : r < n) (hP : P r = true) : mx_sw rl o lf rt P g0 n (rl r).1 ≤ mx_th rl o lf rt (mx_sw rl o lf rt P g0 r) r := by
  refine Nat.le_trans (mx_sw_le (show r + 1 ≤ n from h) _) ?_
  rw [mx_sw_s]
  split
  · exact Nat.le_refl _
  · rename_i hn
    exact Nat.le_of_not_lt (fun h2 => hn ⟨hP, rfl, h2⟩)
theorem mx_sw_b (n k : Nat) : mx_sw rl o lf rt P g0 n k = g0 k ∨ ∃ r, r < n ∧ P r = true ∧ (rl r).1 = k ∧ mx_sw rl o lf rt P g0 n k = mx_th rl o lf rt (mx_sw rl o lf rt P g0 r) r := by
  induction n with
  | zero => exact Or.inl rfl
  | succ n ih =>
    rw [mx_sw_s]
    split
    · rename_i hn
      exact Or.inr ⟨n, Nat.lt_succ_self n, hn.1, hn.2.1.symm, rfl⟩
    · cases ih with
      | inl h => exact Or.inl h
      | inr h =>
        obtain ⟨r, h1, h2⟩ := h
        exact Or.inr ⟨r, Nat.lt_succ_of_lt h1, h2⟩
/-- the chain of changes: what changes in a turn rests on what changed in the turn before -/
theorem mx_desc {a0 a1 a2 : Nat → Nat} (hok : mx_ok rl R) (h2 : ∀ r, r < R → (rl r).2.1 = 8 → a1 (rl r).1 ≤ (rl r).2.2.2.2 + a0 (rl r).2.2.1) (l1 : ∀ k, k < 4 → a1 k ≤ a0 k) (l2 : ∀ k, k < 4 → a2 k ≤ a1 k) (h3 : ∀ k, k < 4 → a2 k < a1 k → ∃ r, r < R ∧ (rl r).2.1 = 8 ∧ (rl r).1 = k ∧ (rl r).2.2.2.2 + a2 (rl r).2.2.1 ≤ a2 k) : ∀ v k, k < 4 → a2 k = v → a2 k < a1 k → ∃ j, j < 4 ∧ a1 j < a0 j ∧ a2 j = a1 j ∧ a2 j < a2 k := by
  intro v
  induction v using Nat.strongRecOn with
  | ind v ih =>
    intro k hk hv hc
    obtain ⟨r, hr, h8, hm, ht⟩ := h3 k hk hc
    have hj := (hok r hr).2.2.1
    have hp := (hok r hr).2.2.2.2.2 h8
    have e2 := h2 r hr h8
    rw [hm] at e2
    have m1 := l1 _ hj
    have m2 := l2 _ hj
    by_cases c1 : a2 (rl r).2.2.1 < a1 (rl r).2.2.1
    · obtain ⟨j, j1, j2, j3, j4⟩ := ih (a2 (rl r).2.2.1) (by omega) _ hj rfl c1
      exact ⟨j, j1, j2, j3, by omega⟩
    · by_cases c2 : a1 (rl r).2.2.1 < a0 (rl r).2.2.1
      · exact ⟨_, hj, c2, by omega, by omega⟩
      · exfalso
        omega
/-- what is changed by the third turn is above all others -/
theorem mx_top {d0 d1 d2 d3 : Nat → Nat} (hok : mx_ok rl R)
    (l1 : ∀ k, k < 4 → d1 k ≤ d0 k) (l2 : ∀ k, k < 4 → d2 k ≤ d1 k) (l3 : ∀ k, k < 4 → d3 k ≤ d2 k)
    (e1 : ∀ r, r < R → (rl r).2.1 = 8 → d1 (rl r).1 ≤ (rl r).2.2.2.2 + d0 (rl r).2.2.1)
    (e2 : ∀ r, r < R → (rl r).2.1 = 8 → d2 (rl r).1 ≤ (rl r).2.2.2.2 + d1 (rl r).2.2.1)
    (c1 : ∀ k, k < 4 → d1 k < d0 k → ∃ r, r < R ∧ (rl r).2.1 = 8 ∧ (rl r).1 = k ∧ (rl r).2.2.2.2 + d1 (rl r).2.2.1 ≤ d1 k)
    (c2 : ∀ k, k < 4 → d2 k < d1 k → ∃ r, r < R ∧ (rl r).2.1 = 8 ∧ (rl r).1 = k ∧ (rl r).2.2.2.2 + d2 (rl r).2.2.1 ≤ d2 k)
    (c3 : ∀ k, k < 4 → d3 k < d2 k → ∃ r, r < R ∧ (rl r).2.1 = 8 ∧ (rl r).1 = k ∧ (rl r).2.2.2.2 + d3 (rl r).2.2.1 ≤ d3 k)
    {j k : Nat} (hj : j < 4) (hk : k < 4) (hc : d3 j < d2 j) (hjk : d3 j < d3 k) : False := by
  obtain ⟨k2, q2, x1, x2, x3⟩ := mx_desc hok e2 l2 l3 c3 (d3 j) j hj rfl hc
  obtain ⟨k1, q1, y1, y2, y3⟩ := mx_desc hok e1 l1 l2 c2 (d2 k2) k2 q2 rfl x1
  obtain ⟨r, hr, h8, hm, ht⟩ := c1 k1 q1 y1
  have q0 := (hok r hr).2.2.1
  have hp := (hok r hr).2.2.2.2.2 h8
  generalize (rl r).2.2.1 = k0 at q0 ht
  have z1 : d1 k0 < d1 k1 := by omega
  have a1 := l2 k0 q0
  have a2 := l3 k0 q0
  have a3 := l3 k1 q1
  have n1 : k0 ≠ k1 := fun h => by subst h; omega
  have n2 : k0 ≠ k2 := fun h => by subst h; omega
  have n3 : k0 ≠ j := fun h => by subst h; omega
  have n4 : k0 ≠ k := fun h => by subst h; omega
  have n5 : k1 ≠ k2 := fun h => by subst h; omega
  have n6 : k1 ≠ j := fun h => by subst h; omega
  have n7 : k1 ≠ k := fun h => by subst h; omega
  have n8 : k2 ≠ j := fun h => by subst h; omega
  have n9 : k2 ≠ k := fun h => by subst h; omega
  have n0 : j ≠ k := fun h => by subst h; omega
  omega
/-- a fourth turn changes nothing -/
theorem mx_stop {d0 d1 d2 d3 d4 : Nat → Nat} (hok : mx_ok rl R)
    (l1 : ∀ k, k < 4 → d1 k ≤ d0 k) (l2 : ∀ k, k < 4 → d2 k ≤ d1 k) (l3 : ∀ k, k < 4 → d3 k ≤ d2 k) (l4 : ∀ k, k < 4 → d4 k ≤ d3 k)
    (e1 : ∀ r, r < R → (rl r).2.1 = 8 → d1 (rl r).1 ≤ (rl r).2.2.2.2 + d0 (rl r).2.2.1)
    (e2 : ∀ r, r < R → (rl r).2.1 = 8 → d2 (rl r).1 ≤ (rl r).2.2.2.2 + d1 (rl r).2.2.1)
    (e3 : ∀ r, r < R → (rl r).2.1 = 8 → d3 (rl r).1 ≤ (rl r).2.2.2.2 + d2 (rl r).2.2.1)
    (c1 : ∀ k, k < 4 → d1 k < d0 k → ∃ r, r < R ∧ (rl r).2.1 = 8 ∧ (rl r).1 = k ∧ (rl r).2.2.2.2 + d1 (rl r).2.2.1 ≤ d1 k)
    (c2 : ∀ k, k < 4 → d2 k < d1 k → ∃ r, r < R ∧ (rl r).2.1 = 8 ∧ (rl r).1 = k ∧ (rl r).2.2.2.2 + d2 (rl r).2.2.1 ≤ d2 k)
    (c3 : ∀ k, k < 4 → d3 k < d2 k → ∃ r, r < R ∧ (rl r).2.1 = 8 ∧ (rl r).1 = k ∧ (rl r).2.2.2.2 + d3 (rl r).2.2.1 ≤ d3 k)
    (c4 : ∀ k, k < 4 → d4 k < d3 k → ∃ r, r < R ∧ (rl r).2.1 = 8 ∧ (rl r).1 = k ∧ (rl r).2.2.2.2 + d4 (rl r).2.2.1 ≤ d4 k)
    (k : Nat) (hk : k < 4) : d4 k = d3 k := by
  have := l4 k hk
  by_cases hc : d4 k < d3 k
  · exfalso
    obtain ⟨k3, q3, x1, x2, x3⟩ := mx_desc hok e3 l3 l4 c4 (d4 k) k hk rfl hc
    exact mx_top hok l1 l2 l3 e1 e2 c1 c2 c3 q3 hk x1 (by omega)
  · omega
end MX
end
section
/-! Five turns over all rules (the reference), and one over the operator's rules and three over the chain rules with their choices (the class), come to mx_Lab. -/
section MP
variable {rl : mx_R} {R o : Nat} {lf rt g g' q q' g0 : Nat → Nat} {P : Nat → Bool}
def mp_G (rl : mx_R) (R o : Nat) (lf rt : Nat → Nat) : Nat → Nat → Nat
  | 0 => fun _ => mx_far
  | t + 1 => mx_sw rl o lf rt (fun _ => true) (mp_G rl R o lf rt t) R
theorem mp_G_le (t k : Nat) : mp_G rl R o lf rt (t + 1) k ≤ mp_G rl R o lf rt t k := mx_sw_le0 R k
theorem mp_G_e (hok : mx_ok rl R) (t r : Nat) (hr : r < R) : mp_G rl R o lf rt (t + 1) (rl r).1 ≤ mx_th rl o lf rt (mp_G rl R o lf rt t) r :=
  Nat.le_trans (mx_sw_a hr rfl) (mx_th_mono hok hr (fun k _ => mx_sw_le0 r k))
theorem mp_G_c (hok : mx_ok rl R) (t k : Nat) (hc : mp_G rl R o lf rt (t + 1 + 1) k < mp_G rl R o lf rt (t + 1) k) : ∃ r, r < R ∧ (rl r).2.1 = 8 ∧ (rl r).1 = k ∧ (rl r).2.2.2.2 + mp_G rl R o lf rt (t + 1 + 1) (rl r).2.2.1 ≤ mp_G rl R o lf rt (t + 1 + 1) k := by
  have hb := mx_sw_b (rl := rl) (o := o) (lf := lf) (rt := rt) (P := fun _ => true) (g0 := mp_G rl R o lf rt (t + 1)) R k
  have hd : mp_G rl R o lf rt (t + 1 + 1) k = mx_sw rl o lf rt (fun _ => true) (mp_G rl R o lf rt (t + 1)) R k := rfl
  cases hb with
  | inl h => omega
  | inr h =>
    obtain ⟨r, hr, -, hm, ht⟩ := h
    by_cases h8 : (rl r).2.1 = 8
    · refine ⟨r, hr, h8, hm, ?_⟩
      rw [mx_th_ch h8] at ht
      have := mx_sw_le (rl := rl) (o := o) (lf := lf) (rt := rt) (P := fun _ => true) (g0 := mp_G rl R o lf rt (t + 1)) (Nat.le_of_lt hr) (rl r).2.2.1
      rw [hd, ht]
      exact Nat.add_le_add_left this _
    · have h1 := mp_G_e (rl := rl) (o := o) (lf := lf) (rt := rt) hok t r hr
      rw [mx_th_op (g' := mx_sw rl o lf rt (fun _ => true) (mp_G rl R o lf rt (t + 1)) r) h8, hm] at h1
      omega
theorem mp_G_at (hok : mx_ok rl R) (t k : Nat) : mp_G rl R o lf rt t k = mx_far ∨ ∃ r, r < R ∧ (rl r).1 = k ∧ mx_th rl o lf rt (mp_G rl R o lf rt t) r ≤ mp_G rl R o lf rt t k := by
  induction t with
  | zero => exact Or.inl rfl
  | succ t ih =>
    have hb := mx_sw_b (rl := rl) (o := o) (lf := lf) (rt := rt) (P := fun _ => true) (g0 := mp_G rl R o lf rt t) R k
    have hd : mp_G rl R o lf rt (t + 1) k = mx_sw rl o lf rt (fun _ => true) (mp_G rl R o lf rt t) R k := rfl
    cases hb with
    | inl h =>
      cases ih with
      | inl i => exact Or.inl (by omega)
      | inr i =>
        obtain ⟨r, hr, hm, ht⟩ := i
        refine Or.inr ⟨r, hr, hm, ?_⟩
        rw [hd, h]
        exact Nat.le_trans (mx_th_mono hok hr (fun k _ => mp_G_le t k)) ht
    | inr h =>
      obtain ⟨r, hr, -, hm, ht⟩ := h
      refine Or.inr ⟨r, hr, hm, ?_⟩
      rw [hd, ht]
      exact mx_th_mono hok hr (fun k _ => mx_sw_le (Nat.le_of_lt hr) k)
theorem mp_G_far (t k : Nat) : mp_G rl R o lf rt t k ≤ mx_far := by
  induction t with
  | zero => exact Nat.le_refl _
  | succ t ih => exact Nat.le_trans (mp_G_le t k) ih
/-- the reference's five turns -/
theorem mp_ref (hok : mx_ok rl R) : mx_Sol rl R o lf rt (mp_G rl R o lf rt 5) := by
  have st : ∀ k, k < 4 → mp_G rl R o lf rt 5 k = mp_G rl R o lf rt 4 k := mx_stop hok
    (fun k _ => mp_G_le 1 k) (fun k _ => mp_G_le 2 k) (fun k _ => mp_G_le 3 k) (fun k _ => mp_G_le 4 k)
    (fun r hr h8 => by rw [← mx_th_ch (o := o) (lf := lf) (rt := rt) h8]; exact mp_G_e hok 1 r hr)
    (fun r hr h8 => by rw [← mx_th_ch (o := o) (lf := lf) (rt := rt) h8]; exact mp_G_e hok 2 r hr)
    (fun r hr h8 => by rw [← mx_th_ch (o := o) (lf := lf) (rt := rt) h8]; exact mp_G_e hok 3 r hr)
    (fun k _ h => mp_G_c hok 0 k h) (fun k _ h => mp_G_c hok 1 k h) (fun k _ h => mp_G_c hok 2 k h) (fun k _ h => mp_G_c hok 3 k h)
  have cl : ∀ r, r < R → mp_G rl R o lf rt 5 (rl r).1 ≤ mx_th rl o lf rt (mp_G rl R o lf rt 5) r := fun r hr => by
    rw [mx_th_congr hok hr st]
    exact mp_G_e hok 4 r hr
  refine ⟨fun k _ => mp_G_far 5 k, cl, fun k hk hf => ?_⟩
  cases mp_G_at (rl := rl) (R := R) (o := o) (lf := lf) (rt := rt) hok 5 k with
  | inl h => omega
  | inr h =>
    obtain ⟨r, hr, hm, ht⟩ := h
    have := cl r hr
    rw [hm] at this
    exact ⟨r, hr, hm, by omega⟩
/-- the reference's choices: from the last rule down, the one that gives the least cost is taken -/
def mp_pk (rl : mx_R) (o : Nat) (lf rt g : Nat → Nat) (R : Nat) : Nat → Nat → Nat
  | 0 => fun _ => 24
  | n + 1 => fun k => if k = (rl (R - 1 - n)).1 ∧ g k < mx_far ∧ mx_th rl o lf rt g (R - 1 - n) = g k then R - 1 - n else mp_pk rl o lf rt g R n k
theorem mp_pk_s (n k : Nat) : mp_pk rl o lf rt g R (n + 1) k = if k = (rl (R - 1 - n)).1 ∧ g k < mx_far ∧ mx_th rl o lf rt g (R - 1 - n) = g k then R - 1 - n else mp_pk rl o lf rt g R n k := rfl
theorem mp_pk_is (n : Nat) (hn : n ≤ R) (k : Nat) : (mp_pk rl o lf rt g R n k = 24 ∧ ∀ r, R - n ≤ r → r < R → (rl r).1 = k → g k < mx_far → mx_th rl o lf rt g r ≠ g k) ∨ (R - n ≤ mp_pk rl o lf rt g R n k ∧ mp_pk rl o lf rt g R n k < R ∧ (rl (mp_pk rl o lf rt g R n k)).1 = k ∧ g k < mx_far ∧ mx_th rl o lf rt g (mp_pk rl o lf rt g R n k) = g k ∧ ∀ r, R - n ≤ r → r < R → (rl r).1 = k → mx_th rl o lf rt g r = g k → mp_pk rl o lf rt g R n k ≤ r) := by
  induction n with
  | zero => exact Or.inl ⟨rfl, fun r h1 h2 => by omega⟩
  | succ n ih =>
    have ih := ih (by omega)
    rw [mp_pk_s]
    split
    · rename_i hc
      refine Or.inr ⟨by omega, by omega, hc.1.symm, hc.2.1, hc.2.2, fun r h1 h2 h3 h4 => by omega⟩
    · rename_i hc
      cases ih with
      | inl i =>
        refine Or.inl ⟨i.1, fun r h1 h2 h3 h4 h5 => ?_⟩
        by_cases e : r = R - 1 - n
        · subst e
          exact hc ⟨h3.symm, h4, h5⟩
        · exact i.2 r (by omega) h2 h3 h4 h5
      | inr i =>
        obtain ⟨i1, i2, i3, i4, i5, i6⟩ := i
        refine Or.inr ⟨by omega, i2, i3, i4, i5, fun r h1 h2 h3 h4 => ?_⟩
        by_cases e : r = R - 1 - n
        · subst e
          exact absurd ⟨h3.symm, i4, h4⟩ hc
        · exact i6 r (by omega) h2 h3 h4
theorem mp_ref_lab (hs : mx_Sol rl R o lf rt g) : mx_Lab rl R o lf rt g (mp_pk rl o lf rt g R R) := by
  refine ⟨hs, fun k hk => ⟨fun hf => ?_, fun hf => ?_⟩⟩
  · obtain ⟨r, hr, hm, ht⟩ := hs.2.2 k hk hf
    cases mp_pk_is (rl := rl) (o := o) (lf := lf) (rt := rt) (g := g) (R := R) R (Nat.le_refl R) k with
    | inl i => exact absurd ht (i.2 r (by omega) hr hm hf)
    | inr i =>
      obtain ⟨i1, i2, i3, i4, i5, i6⟩ := i
      exact ⟨i2, i3, i5, fun r hr hm ht => i6 r (by omega) hr hm ht⟩
  · cases mp_pk_is (rl := rl) (o := o) (lf := lf) (rt := rt) (g := g) (R := R) R (Nat.le_refl R) k with
    | inl i => exact i.1
    | inr i => exact absurd i.2.2.2.1 hf
/-- the class's offers: costs and choices -/
abbrev mp_of (rl : mx_R) (o : Nat) (lf rt : Nat → Nat) (s : (Nat → Nat) × (Nat → Nat)) (r : Nat) : Prop := mx_th rl o lf rt s.1 r < mx_far ∧ (mx_th rl o lf rt s.1 r < s.1 (rl r).1 ∨ mx_th rl o lf rt s.1 r = s.1 (rl r).1 ∧ r < s.2 (rl r).1)
def mp_st (rl : mx_R) (o : Nat) (lf rt : Nat → Nat) (s : (Nat → Nat) × (Nat → Nat)) (r : Nat) : (Nat → Nat) × (Nat → Nat) := (va_up s.1 (rl r).1 (mx_th rl o lf rt s.1 r), va_up s.2 (rl r).1 r)
def mp_sw (rl : mx_R) (o : Nat) (lf rt : Nat → Nat) (P : Nat → Bool) (s0 : (Nat → Nat) × (Nat → Nat)) : Nat → (Nat → Nat) × (Nat → Nat)
  | 0 => s0
  | n + 1 => if P n = true ∧ mp_of rl o lf rt (mp_sw rl o lf rt P s0 n) n then mp_st rl o lf rt (mp_sw rl o lf rt P s0 n) n else mp_sw rl o lf rt P s0 n
variable {s0 : (Nat → Nat) × (Nat → Nat)}
theorem mp_sw_skip {a b : Nat} (h : a ≤ b) (hP : ∀ r, a ≤ r → r < b → P r = false) : mp_sw rl o lf rt P s0 b = mp_sw rl o lf rt P s0 a := by
  induction h with
  | refl => rfl
  | step h ih =>
    rename_i n
    have hn : P n = false := hP n h (Nat.lt_succ_self n)
    have hc : ¬ (P n = true ∧ mp_of rl o lf rt (mp_sw rl o lf rt P s0 n) n) := fun x => by rw [hn] at x; exact absurd x.1 (by decide)
    rw [mp_sw, if_neg hc]
    exact ih (fun r h1 h2 => hP r h1 (Nat.lt_succ_of_lt h2))
theorem mp_up_s {f : Nat → Nat} {k v : Nat} : va_up f k v k = v := by rw [va_up, if_pos rfl]
theorem mp_up_n {f : Nat → Nat} {k v j : Nat} (h : j ≠ k) : va_up f k v j = f j := by rw [va_up, if_neg h]
theorem mp_fst (h0 : ∀ k, s0.1 k ≤ mx_far) (n : Nat) : (mp_sw rl o lf rt P s0 n).1 = mx_sw rl o lf rt P s0.1 n := by
  induction n with
  | zero => rfl
  | succ n ih =>
    funext k
    have hle : mx_sw rl o lf rt P s0.1 n k ≤ mx_far := Nat.le_trans (mx_sw_le0 n k) (h0 k)
    rw [mp_sw, mx_sw_s]
    by_cases hc : P n = true ∧ mp_of rl o lf rt (mp_sw rl o lf rt P s0 n) n
    · rw [if_pos hc, mp_st]
      show va_up (mp_sw rl o lf rt P s0 n).1 (rl n).1 (mx_th rl o lf rt (mp_sw rl o lf rt P s0 n).1 n) k = _
      obtain ⟨h1, h2, h3⟩ := hc
      rw [ih] at h2 h3 ⊢
      by_cases hk : k = (rl n).1
      · rw [hk, mp_up_s]
        rw [hk] at hle
        split
        · rfl
        · rename_i hn
          have : ¬ mx_th rl o lf rt (mx_sw rl o lf rt P s0.1 n) n < mx_sw rl o lf rt P s0.1 n (rl n).1 := fun x => hn ⟨h1, rfl, x⟩
          omega
      · rw [mp_up_n hk, if_neg (fun x => hk x.2.1)]
    · rw [if_neg hc, ih]
      split
      · rename_i hn
        exfalso
        apply hc
        rw [mp_of, ih]
        refine ⟨hn.1, by omega, Or.inl ?_⟩
        rw [← hn.2.1]
        exact hn.2.2
      · rfl
theorem mp_dec (n k : Nat) : (mp_sw rl o lf rt P s0 (n + 1)).1 k ≤ (mp_sw rl o lf rt P s0 n).1 k := by
  rw [mp_sw]
  split
  · rename_i hc
    show va_up _ _ _ k ≤ _
    by_cases hk : k = (rl n).1
    · rw [hk, mp_up_s]
      have := hc.2.2
      omega
    · rw [mp_up_n hk]
      exact Nat.le_refl _
  · exact Nat.le_refl _
theorem mp_le {n n' : Nat} (h : n ≤ n') (k : Nat) : (mp_sw rl o lf rt P s0 n').1 k ≤ (mp_sw rl o lf rt P s0 n).1 k := by
  induction h with
  | refl => exact Nat.le_refl _
  | step _ ih => exact Nat.le_trans (mp_dec _ k) ih
/-- a choice falls while its cost stays -/
theorem mp_q_dec (n k : Nat) (h : (mp_sw rl o lf rt P s0 (n + 1)).1 k = (mp_sw rl o lf rt P s0 n).1 k) : (mp_sw rl o lf rt P s0 (n + 1)).2 k ≤ (mp_sw rl o lf rt P s0 n).2 k := by
  rw [mp_sw] at h ⊢
  split
  · rename_i hc
    rw [if_pos hc] at h
    have h : va_up (mp_sw rl o lf rt P s0 n).1 (rl n).1 (mx_th rl o lf rt (mp_sw rl o lf rt P s0 n).1 n) k = (mp_sw rl o lf rt P s0 n).1 k := h
    show va_up _ _ _ k ≤ _
    by_cases hk : k = (rl n).1
    · rw [hk, mp_up_s] at h ⊢
      have := hc.2.2
      omega
    · rw [mp_up_n hk]
      exact Nat.le_refl _
  · exact Nat.le_refl _
theorem mp_q_le {n n' : Nat} (hn : n ≤ n') (k : Nat) (h : (mp_sw rl o lf rt P s0 n').1 k = (mp_sw rl o lf rt P s0 n).1 k) : (mp_sw rl o lf rt P s0 n').2 k ≤ (mp_sw rl o lf rt P s0 n).2 k := by
  revert h
  induction hn with
  | refl => exact fun _ => Nat.le_refl _
  | step hm ih =>
    rename_i j
    intro h
    have h : (mp_sw rl o lf rt P s0 (j + 1)).1 k = (mp_sw rl o lf rt P s0 n).1 k := h
    have a1 := mp_dec (rl := rl) (o := o) (lf := lf) (rt := rt) (P := P) (s0 := s0) j k
    have a2 := mp_le (rl := rl) (o := o) (lf := lf) (rt := rt) (P := P) (s0 := s0) hm k
    exact Nat.le_trans (mp_q_dec j k (by omega)) (ih (by omega))
/-- a rule whose offer was the last cost is no lower than the choice -/
theorem mp_min {n r : Nat} (hr : r < n) (hP : P r = true) (ht : mx_th rl o lf rt (mp_sw rl o lf rt P s0 r).1 r = (mp_sw rl o lf rt P s0 n).1 (rl r).1) (hf : (mp_sw rl o lf rt P s0 n).1 (rl r).1 < mx_far) : (mp_sw rl o lf rt P s0 n).2 (rl r).1 ≤ r := by
  have a1 := mp_le (rl := rl) (o := o) (lf := lf) (rt := rt) (P := P) (s0 := s0) (show r + 1 ≤ n from hr) (rl r).1
  have a2 := mp_dec (rl := rl) (o := o) (lf := lf) (rt := rt) (P := P) (s0 := s0) r (rl r).1
  have hs : (mp_sw rl o lf rt P s0 (r + 1)).1 (rl r).1 = mx_th rl o lf rt (mp_sw rl o lf rt P s0 r).1 r ∧ (mp_sw rl o lf rt P s0 (r + 1)).2 (rl r).1 ≤ r := by
    rw [mp_sw]
    rw [mp_sw] at a1 a2
    split
    · rename_i hc
      refine ⟨?_, ?_⟩
      · show va_up _ _ _ (rl r).1 = _
        rw [mp_up_s]
      · show va_up _ _ _ (rl r).1 ≤ r
        rw [mp_up_s]
        exact Nat.le_refl _
    · rename_i hc
      rw [if_neg hc] at a1 a2
      have hc2 : ¬ mp_of rl o lf rt (mp_sw rl o lf rt P s0 r) r := fun x => hc ⟨hP, x⟩
      rw [mp_of] at hc2
      omega
  have := mp_q_le (rl := rl) (o := o) (lf := lf) (rt := rt) (P := P) (s0 := s0) (show r + 1 ≤ n from hr) (rl r).1 (by omega)
  omega
/-- the choices are rules that give the costs, or better -/
def mp_I (rl : mx_R) (R o : Nat) (lf rt : Nat → Nat) (s : (Nat → Nat) × (Nat → Nat)) : Prop := ∀ k, k < 4 → s.1 k ≤ mx_far ∧ (s.1 k < mx_far → s.2 k < R ∧ (rl (s.2 k)).1 = k ∧ mx_th rl o lf rt s.1 (s.2 k) ≤ s.1 k) ∧ (¬ s.1 k < mx_far → s.2 k = 24)
theorem mp_I_sw (hok : mx_ok rl R) (h0 : mp_I rl R o lf rt s0) (n : Nat) (hn : n ≤ R) : mp_I rl R o lf rt (mp_sw rl o lf rt P s0 n) := by
  induction n with
  | zero => exact h0
  | succ n ih =>
    have ih := ih (by omega)
    have hd : ∀ k, k < 4 → (mp_sw rl o lf rt P s0 (n + 1)).1 k ≤ (mp_sw rl o lf rt P s0 n).1 k := fun k _ => mp_dec n k
    rw [mp_sw] at hd ⊢
    split
    · rename_i hc
      rw [if_pos hc] at hd
      intro k hk
      have hi := ih k hk
      show va_up _ _ _ k ≤ _ ∧ (va_up _ _ _ k < _ → va_up _ _ _ k < R ∧ (rl (va_up _ _ _ k)).1 = k ∧ mx_th rl o lf rt _ (va_up _ _ _ k) ≤ va_up _ _ _ k) ∧ (¬ va_up _ _ _ k < _ → va_up _ _ _ k = 24)
      by_cases e : k = (rl n).1
      · subst e
        rw [mp_up_s, mp_up_s]
        refine ⟨Nat.le_of_lt hc.2.1, fun _ => ⟨by omega, rfl, ?_⟩, fun h => absurd hc.2.1 h⟩
        exact mx_th_mono hok (by omega) hd
      · rw [mp_up_n e, mp_up_n e]
        refine ⟨hi.1, fun h => ?_, hi.2.2⟩
        obtain ⟨i1, i2, i3⟩ := hi.2.1 h
        exact ⟨i1, i2, Nat.le_trans (mx_th_mono hok i1 hd) i3⟩
    · exact ih
def mp_s0 : (Nat → Nat) × (Nat → Nat) := (fun _ => mx_far, fun _ => 24)
def mp_po (rl : mx_R) (o : Nat) : Nat → Bool := fun r => decide ((rl r).2.1 = o)
/-- the class: the operator's rules, then t turns over the chain rules -/
def mp_C (rl : mx_R) (R o : Nat) (lf rt : Nat → Nat) : Nat → (Nat → Nat) × (Nat → Nat)
  | 0 => mp_sw rl o lf rt (mp_po rl o) mp_s0 R
  | t + 1 => mp_sw rl o lf rt (mp_po rl 8) (mp_C rl R o lf rt t) R
theorem mp_C_I (hok : mx_ok rl R) (t : Nat) : mp_I rl R o lf rt (mp_C rl R o lf rt t) := by
  induction t with
  | zero => exact mp_I_sw hok (fun k _ => ⟨Nat.le_refl _, fun h => absurd h (Nat.lt_irrefl _), fun _ => rfl⟩) R (Nat.le_refl R)
  | succ t ih => exact mp_I_sw hok ih R (Nat.le_refl R)
theorem mp_C_le (t k : Nat) : (mp_C rl R o lf rt (t + 1)).1 k ≤ (mp_C rl R o lf rt t).1 k := mp_le (Nat.zero_le R) k
theorem mp_C_far (t k : Nat) : (mp_C rl R o lf rt t).1 k ≤ mx_far := by
  induction t with
  | zero => exact mp_le (s0 := mp_s0) (Nat.zero_le R) k
  | succ t ih => exact Nat.le_trans (mp_C_le t k) ih
theorem mp_C_eq (t : Nat) : (mp_C rl R o lf rt (t + 1)).1 = mx_sw rl o lf rt (mp_po rl 8) (mp_C rl R o lf rt t).1 R := mp_fst (fun k => mp_C_far t k) R
theorem mp_C_e (hok : mx_ok rl R) (t r : Nat) (hr : r < R) (h8 : (rl r).2.1 = 8) : (mp_C rl R o lf rt (t + 1)).1 (rl r).1 ≤ (rl r).2.2.2.2 + (mp_C rl R o lf rt t).1 (rl r).2.2.1 := by
  rw [← mx_th_ch (o := o) (lf := lf) (rt := rt) h8, mp_C_eq]
  exact Nat.le_trans (mx_sw_a hr (by rw [mp_po, h8]; rfl)) (mx_th_mono hok hr (fun k _ => mx_sw_le0 r k))
theorem mp_C_c (t k : Nat) (hc : (mp_C rl R o lf rt (t + 1)).1 k < (mp_C rl R o lf rt t).1 k) : ∃ r, r < R ∧ (rl r).2.1 = 8 ∧ (rl r).1 = k ∧ (rl r).2.2.2.2 + (mp_C rl R o lf rt (t + 1)).1 (rl r).2.2.1 ≤ (mp_C rl R o lf rt (t + 1)).1 k := by
  rw [mp_C_eq] at hc ⊢
  cases mx_sw_b (rl := rl) (o := o) (lf := lf) (rt := rt) (P := mp_po rl 8) (g0 := (mp_C rl R o lf rt t).1) R k with
  | inl h => omega
  | inr h =>
    obtain ⟨r, hr, hP, hm, ht⟩ := h
    have h8 : (rl r).2.1 = 8 := of_decide_eq_true hP
    refine ⟨r, hr, h8, hm, ?_⟩
    rw [mx_th_ch h8] at ht
    rw [ht]
    exact Nat.add_le_add_left (mx_sw_le (Nat.le_of_lt hr) _) _
theorem mp_C_stop (hok : mx_ok rl R) (k : Nat) (hk : k < 4) : (mp_C rl R o lf rt 4).1 k = (mp_C rl R o lf rt 3).1 k :=
  mx_stop hok (fun k _ => mp_C_le 0 k) (fun k _ => mp_C_le 1 k) (fun k _ => mp_C_le 2 k) (fun k _ => mp_C_le 3 k) (fun r hr h8 => mp_C_e hok 0 r hr h8) (fun r hr h8 => mp_C_e hok 1 r hr h8) (fun r hr h8 => mp_C_e hok 2 r hr h8) (fun k _ h => mp_C_c 0 k h) (fun k _ h => mp_C_c 1 k h) (fun k _ h => mp_C_c 2 k h) (fun k _ h => mp_C_c 3 k h) k hk
theorem mp_C_op (t r : Nat) (hr : r < R) (ho : (rl r).2.1 = o) (h8 : (rl r).2.1 ≠ 8) : (mp_C rl R o lf rt t).1 (rl r).1 ≤ mx_th rl o lf rt g r := by
  induction t with
  | zero =>
    have h1 : (mp_C rl R o lf rt 0).1 = mx_sw rl o lf rt (mp_po rl o) (fun _ => mx_far) R := mp_fst (s0 := mp_s0) (fun k => Nat.le_refl _) R
    rw [h1, mx_th_op (g' := mx_sw rl o lf rt (mp_po rl o) (fun _ => mx_far) r) h8]
    exact mx_sw_a hr (by rw [mp_po, ho]; exact decide_eq_true rfl)
  | succ t ih => exact Nat.le_trans (mp_C_le t _) ih
/-- the class's label -/
theorem mp_cls (hok : mx_ok rl R) (ho : o < 8) : mx_Lab rl R o lf rt (mp_C rl R o lf rt 3).1 (mp_C rl R o lf rt 3).2 := by
  have hI := mp_C_I (rl := rl) (o := o) (lf := lf) (rt := rt) hok 3
  have cl : ∀ r, r < R → (mp_C rl R o lf rt 3).1 (rl r).1 ≤ mx_th rl o lf rt (mp_C rl R o lf rt 3).1 r := fun r hr => by
    by_cases h8 : (rl r).2.1 = 8
    · rw [mx_th_ch h8, ← mp_C_stop hok _ (hok r hr).1]
      exact mp_C_e hok 3 r hr h8
    · by_cases h : (rl r).2.1 = o
      · exact mp_C_op 3 r hr h h8
      · rw [mx_th, if_neg h8, if_neg h]
        exact mp_C_far 3 _
  have sol : mx_Sol rl R o lf rt (mp_C rl R o lf rt 3).1 := ⟨fun k _ => mp_C_far 3 k, cl, fun k hk hf => by
    obtain ⟨i1, i2, i3⟩ := (hI k hk).2.1 hf
    have := cl _ i1
    rw [i2] at this
    exact ⟨_, i1, i2, by omega⟩⟩
  refine ⟨sol, fun k hk => ⟨fun hf => ?_, (hI k hk).2.2⟩⟩
  obtain ⟨i1, i2, i3⟩ := (hI k hk).2.1 hf
  have i4 := cl _ i1
  rw [i2] at i4
  refine ⟨i1, i2, by omega, fun r hr hm ht => ?_⟩
  by_cases h8 : (rl r).2.1 = 8
  · have hj := (hok r hr).2.2.1
    have hp := (hok r hr).2.2.2.2.2 h8
    have ht' := ht
    rw [mx_th_ch h8] at ht'
    have l3 : (mp_C rl R o lf rt 3).1 (rl r).2.2.1 ≤ (mp_C rl R o lf rt 2).1 (rl r).2.2.1 := mp_C_le 2 _
    by_cases hc : (mp_C rl R o lf rt 3).1 (rl r).2.2.1 < (mp_C rl R o lf rt 2).1 (rl r).2.2.1
    · exact (mx_top hok (fun k _ => mp_C_le 0 k) (fun k _ => mp_C_le 1 k) (fun k _ => mp_C_le 2 k) (fun r hr h8 => mp_C_e hok 0 r hr h8) (fun r hr h8 => mp_C_e hok 1 r hr h8) (d0 := (mp_C rl R o lf rt 0).1) (d1 := (mp_C rl R o lf rt 1).1) (d2 := (mp_C rl R o lf rt 2).1) (d3 := (mp_C rl R o lf rt 3).1) (fun k _ h => mp_C_c 0 k h) (fun k _ h => mp_C_c 1 k h) (fun k _ h => mp_C_c 2 k h) hj hk hc (by omega)).elim
    · have b1 := mp_le (rl := rl) (o := o) (lf := lf) (rt := rt) (P := mp_po rl 8) (s0 := mp_C rl R o lf rt 2) (Nat.zero_le r) (rl r).2.2.1
      have b2 := mp_le (rl := rl) (o := o) (lf := lf) (rt := rt) (P := mp_po rl 8) (s0 := mp_C rl R o lf rt 2) (Nat.le_of_lt hr) (rl r).2.2.1
      have e2 : (mp_sw rl o lf rt (mp_po rl 8) (mp_C rl R o lf rt 2) R).1 = (mp_C rl R o lf rt 3).1 := rfl
      have e0 : (mp_sw rl o lf rt (mp_po rl 8) (mp_C rl R o lf rt 2) 0).1 = (mp_C rl R o lf rt 2).1 := rfl
      rw [e2] at b2
      rw [e0] at b1
      have := mp_min (rl := rl) (o := o) (lf := lf) (rt := rt) (P := mp_po rl 8) (s0 := mp_C rl R o lf rt 2) hr (by rw [mp_po, h8]; rfl) (by rw [mx_th_ch h8, e2, hm]; omega) (by rw [e2, hm]; exact hf)
      rw [hm] at this
      exact this
  · have h : (rl r).2.1 = o := by
      by_cases h : (rl r).2.1 = o
      · exact h
      · rw [mx_th, if_neg h8, if_neg h] at ht
        omega
    have c0 := mp_C_op (rl := rl) (R := R) (o := o) (lf := lf) (rt := rt) (g := (mp_C rl R o lf rt 3).1) 0 r hr h h8
    rw [hm] at c0
    have l1 : (mp_C rl R o lf rt 1).1 k ≤ (mp_C rl R o lf rt 0).1 k := mp_C_le 0 k
    have l2 : (mp_C rl R o lf rt 2).1 k ≤ (mp_C rl R o lf rt 1).1 k := mp_C_le 1 k
    have l3 : (mp_C rl R o lf rt 3).1 k ≤ (mp_C rl R o lf rt 2).1 k := mp_C_le 2 k
    have m0 : (mp_C rl R o lf rt 0).2 k ≤ r := by
      have := mp_min (rl := rl) (o := o) (lf := lf) (rt := rt) (P := mp_po rl o) (s0 := mp_s0) hr (by rw [mp_po, h]; exact decide_eq_true rfl) (by
        rw [mx_th_op (g' := (mp_C rl R o lf rt 3).1) h8, hm]
        show _ = (mp_C rl R o lf rt 0).1 k
        omega) (by rw [hm]; show (mp_C rl R o lf rt 0).1 k < _; omega)
      rw [hm] at this
      exact this
    have m1 : (mp_C rl R o lf rt 1).2 k ≤ (mp_C rl R o lf rt 0).2 k := mp_q_le (s0 := mp_C rl R o lf rt 0) (Nat.zero_le R) k (by show (mp_C rl R o lf rt 1).1 k = (mp_C rl R o lf rt 0).1 k; omega)
    have m2 : (mp_C rl R o lf rt 2).2 k ≤ (mp_C rl R o lf rt 1).2 k := mp_q_le (s0 := mp_C rl R o lf rt 1) (Nat.zero_le R) k (by show (mp_C rl R o lf rt 2).1 k = (mp_C rl R o lf rt 1).1 k; omega)
    have m3 : (mp_C rl R o lf rt 3).2 k ≤ (mp_C rl R o lf rt 2).2 k := mp_q_le (s0 := mp_C rl R o lf rt 2) (Nat.zero_le R) k (by show (mp_C rl R o lf rt 3).1 k = (mp_C rl R o lf rt 2).1 k; omega)
    omega
/-- where a turn changes nothing, no later one does -/
theorem mp_C_same {t : Nat} (h : mp_C rl R o lf rt (t + 1) = mp_C rl R o lf rt t) (d : Nat) : mp_C rl R o lf rt (t + d) = mp_C rl R o lf rt t := by
  induction d with
  | zero => rfl
  | succ d ih =>
    show mp_sw rl o lf rt (mp_po rl 8) (mp_C rl R o lf rt (t + d)) R = _
    rw [ih]
    exact h
end MP
end
section
/-! The states: what both searches count. A state is its relative costs and its choices, four of each. -/
section NB
variable {rl : mx_R} {R o : Nat} {lf rt g : Nat → Nat}
/-- how many kinds cost less than v -/
def ns_rk (g : Nat → Nat) (v : Nat) : Nat := (if g 0 < v then 1 else 0) + (if g 1 < v then 1 else 0) + (if g 2 < v then 1 else 0) + (if g 3 < v then 1 else 0)
theorem ns_rk_lt {v w j : Nat} (hj : j < 4) (h1 : g j = v) (h2 : v < w) : ns_rk g v + 1 ≤ ns_rk g w := by
  have hc : j = 0 ∨ j = 1 ∨ j = 2 ∨ j = 3 := by omega
  unfold ns_rk
  rcases hc with rfl | rfl | rfl | rfl <;> (repeat' split) <;> omega
theorem ns_rk_le (v j : Nat) (hj : j < 4) (h1 : g j = v) : ns_rk g v ≤ 3 := by
  have hc : j = 0 ∨ j = 1 ∨ j = 2 ∨ j = 3 := by omega
  unfold ns_rk
  rcases hc with rfl | rfl | rfl | rfl <;> (repeat' split) <;> omega
theorem ns_bound0 (hok : mx_ok rl R) (h : mx_Sol rl R o lf rt g) {M : Nat} (hl : ∀ k, k < 4 → lf k < mx_far → lf k ≤ M) (hr : ∀ k, k < 4 → rt k < mx_far → rt k ≤ M) : ∀ v k, k < 4 → g k = v → g k < mx_far → g k ≤ 9 * ns_rk g v + (9 + 2 * M) := by
  intro v
  induction v using Nat.strongRecOn with
  | ind v ih =>
    intro k hk hv hf
    obtain ⟨r, hr', hm, ht⟩ := h.2.2 k hk hf
    have hb := hok r hr'
    by_cases h8 : (rl r).2.1 = 8
    · rw [mx_th_ch h8] at ht
      have hp := hb.2.2.2.2.2 h8
      have i1 := ih (g (rl r).2.2.1) (by omega) _ hb.2.2.1 rfl (by omega)
      have i2 := ns_rk_lt (g := g) (v := g (rl r).2.2.1) (w := v) hb.2.2.1 rfl (by omega)
      have := hb.2.2.2.2.1
      omega
    · by_cases ho : (rl r).2.1 = o
      · rw [mx_th, if_neg h8, if_pos ho] at ht
        have a1 := hl _ hb.2.2.1
        have a2 := hr _ hb.2.2.2.1
        have := hb.2.2.2.2.1
        split at ht <;> split at ht <;> omega
      · rw [mx_th, if_neg h8, if_neg ho] at ht
        omega
/-- no cost is far above those of the kids -/
theorem ns_bound (hok : mx_ok rl R) (h : mx_Sol rl R o lf rt g) {M : Nat} (hl : ∀ k, k < 4 → lf k < mx_far → lf k ≤ M) (hr : ∀ k, k < 4 → rt k < mx_far → rt k ≤ M) (k : Nat) (hk : k < 4) (hf : g k < mx_far) : g k ≤ 2 * M + 36 := by
  have a1 := ns_bound0 hok h hl hr (g k) k hk rfl hf
  have a2 := ns_rk_le (g := g) (g k) k hk rfl
  omega
end NB
abbrev ns_Q : Type := Nat × Nat × Nat × Nat
def ns_tup (f : Nat → Nat) : ns_Q := (f 0, f 1, f 2, f 3)
def ns_at (t : ns_Q) (k : Nat) : Nat := if k = 0 then t.1 else if k = 1 then t.2.1 else if k = 2 then t.2.2.1 else t.2.2.2
theorem ns_at_tup (f : Nat → Nat) (k : Nat) (hk : k < 4) : ns_at (ns_tup f) k = f k := by
  have hc : k = 0 ∨ k = 1 ∨ k = 2 ∨ k = 3 := by omega
  rcases hc with rfl | rfl | rfl | rfl <;> rfl
theorem ns_tup_eq {f g : Nat → Nat} (h : ∀ k, k < 4 → f k = g k) : ns_tup f = ns_tup g := by
  rw [ns_tup, ns_tup, h 0 (by omega), h 1 (by omega), h 2 (by omega), h 3 (by omega)]
theorem ns_tup_inj {f g : Nat → Nat} (h : ns_tup f = ns_tup g) (k : Nat) (hk : k < 4) : f k = g k := by
  rw [← ns_at_tup f k hk, ← ns_at_tup g k hk, h]
def ns_low (g : Nat → Nat) : Nat := min (min (g 0) (g 1)) (min (g 2) (g 3))
def ns_nrm (g : Nat → Nat) (k : Nat) : Nat := if g k < mx_far then g k - ns_low g else mx_far
abbrev ns_St : Type := ns_Q × ns_Q
/-- c is the state of a tree with the operator o over trees of the states a and b -/
def ns_nx (rl : mx_R) (R o : Nat) (a b c : ns_St) : Prop := ∃ g q : Nat → Nat, mx_Lab rl R o (ns_at a.1) (ns_at b.1) g q ∧ c = (ns_tup (ns_nrm g), ns_tup q)
theorem ns_nx_uniq {rl : mx_R} {R o : Nat} (hok : mx_ok rl R) {a b c c' : ns_St} (h : ns_nx rl R o a b c) (h' : ns_nx rl R o a b c') : c = c' := by
  obtain ⟨g, q, h1, h2⟩ := h
  obtain ⟨g', q', h1', h2'⟩ := h'
  have e := mx_lab_uniq hok h1 h1'
  rw [h2, h2']
  have e1 : ∀ k, k < 4 → g k = g' k := fun k hk => (e k hk).1
  have el : ns_low g = ns_low g' := by
    rw [ns_low, ns_low, e1 0 (by omega), e1 1 (by omega), e1 2 (by omega), e1 3 (by omega)]
  rw [ns_tup_eq (f := q) (g := q') (fun k hk => (e k hk).2), ns_tup_eq (f := ns_nrm g) (g := ns_nrm g') (fun k hk => by rw [ns_nrm, ns_nrm, e1 k hk, el])]
/-- each one found rests on ones found before it -/
def ns_from (rl : mx_R) (R : Nat) (A : Nat → ns_St) (n : Nat) : Prop := ∀ i, i < n → ∃ o, (o < 3 ∧ ∃ a b, ns_nx rl R o a b (A i)) ∨ (3 ≤ o ∧ o < 8 ∧ ∃ x y, x < i ∧ y < i ∧ ns_nx rl R o (A x) (A y) (A i))
def ns_dis (A : Nat → ns_St) (n : Nat) : Prop := ∀ i j, i < n → j < n → A i = A j → i = j
def ns_cl (rl : mx_R) (R : Nat) (A : Nat → ns_St) (n : Nat) : Prop := (∀ o, o < 3 → ∀ a b c, ns_nx rl R o a b c → ∃ i, i < n ∧ A i = c) ∧ ∀ o, 3 ≤ o → o < 8 → ∀ x y, x < n → y < n → ∀ c, ns_nx rl R o (A x) (A y) c → ∃ i, i < n ∧ A i = c
theorem ns_sub {rl : mx_R} {R : Nat} {A B : Nat → ns_St} {n m : Nat} (hA : ns_from rl R A n) (hB : ns_cl rl R B m) : ∀ i, i < n → ∃ j, j < m ∧ B j = A i := by
  intro i
  induction i using Nat.strongRecOn with
  | ind i ih =>
    intro hi
    obtain ⟨o, h | h⟩ := hA i hi
    · obtain ⟨ho, a, b, h⟩ := h
      exact hB.1 o ho a b _ h
    · obtain ⟨h3, h8, x, y, hx, hy, h⟩ := h
      obtain ⟨x', hx', ex⟩ := ih x hx (by omega)
      obtain ⟨y', hy', ey⟩ := ih y hy (by omega)
      rw [← ex, ← ey] at h
      exact hB.2 o h3 h8 x' y' hx' hy' _ h
theorem ns_pig : ∀ (L M : List ns_St), L.Nodup → (∀ a, a ∈ L → a ∈ M) → L.length ≤ M.length
  | [], M, _, _ => Nat.zero_le _
  | a :: L, M, hn, hs => by
    have h1 := List.nodup_cons.mp hn
    have ha : a ∈ M := hs a List.mem_cons_self
    have hl := List.length_erase_of_mem ha
    have hp : 0 < M.length := List.length_pos_of_mem ha
    have := ns_pig L (M.erase a) h1.2 (fun b hb => by
      have hne : b ≠ a := fun e => h1.1 (e ▸ hb)
      exact (List.mem_erase_of_ne hne).mpr (hs b (List.mem_cons_of_mem _ hb)))
    rw [List.length_cons]
    omega
theorem ns_le {rl : mx_R} {R : Nat} {A B : Nat → ns_St} {n m : Nat} (hA : ns_from rl R A n) (hd : ns_dis A n) (hB : ns_cl rl R B m) : n ≤ m := by
  have h := ns_pig ((List.range n).map A) ((List.range m).map B) (by
    refine List.pairwise_map.mpr ?_
    refine List.Pairwise.imp_of_mem (R := fun a b => a < b) ?_ List.pairwise_lt_range
    intro a b ha hb hab e
    have := hd a b (List.mem_range.mp ha) (List.mem_range.mp hb) e
    omega) (fun a ha => by
    obtain ⟨i, hi, rfl⟩ := List.mem_map.mp ha
    obtain ⟨j, hj, e⟩ := ns_sub hA hB i (List.mem_range.mp hi)
    exact List.mem_map.mpr ⟨j, List.mem_range.mpr hj, e⟩)
  simpa using h
/-- what states() answers -/
def ns_ans (rl : mx_R) (R : Nat) (r : Int32) : Prop := (∃ (A : Nat → ns_St) (n : Nat), n ≤ 40 ∧ r = nI n ∧ ns_from rl R A n ∧ ns_dis A n ∧ ns_cl rl R A n) ∨ (r = -4 ∧ ∃ A : Nat → ns_St, ns_from rl R A 41 ∧ ns_dis A 41)
theorem ns_ans_uniq {rl : mx_R} {R : Nat} {r r' : Int32} (h : ns_ans rl R r) (h' : ns_ans rl R r') : r = r' := by
  rcases h with ⟨A, n, hn, e, h1, h2, h3⟩ | ⟨e, A, h1, h2⟩ <;> rcases h' with ⟨A', n', hn', e', h1', h2', h3'⟩ | ⟨e', A', h1', h2'⟩
  · have a1 := ns_le h1 h2 h3'
    have a2 := ns_le h1' h2' h3
    rw [e, e', show n = n' by omega]
  · have := ns_le h1' h2' h3
    omega
  · have := ns_le h1 h2 h3'
    omega
  · rw [e, e']
end
section
/-! The places: registers while there are free ones, else the value that is needed longest gets a slot. pl j: the place of instruction j; un j: its last use. -/
abbrev pl_held (reg : Nat) (un pl : Nat → Nat) (i j : Nat) : Prop := j < i ∧ pl j < reg ∧ i < un j
def pl_fr (reg : Nat) (un pl : Nat → Nat) (i r : Nat) : Prop := ∀ j, pl_held reg un pl i j → pl j ≠ r
def pl_max (reg : Nat) (un pl : Nat → Nat) (i x : Nat) : Prop := (x = i ∨ pl_held reg un pl i x) ∧ (un i < un x ∨ un i = un x ∧ i ≤ x) ∧ ∀ j, pl_held reg un pl i j → un j < un x ∨ un j = un x ∧ j ≤ x
def pl_step (reg : Nat) (un : Nat → Nat) (i : Nat) (pl : Nat → Nat) (sc : Nat) (pl' : Nat → Nat) (sc' : Nat) : Prop :=
  (∃ r, r < reg ∧ pl_fr reg un pl i r ∧ (∀ r', r' < r → ¬ pl_fr reg un pl i r') ∧ pl' = va_up pl i r ∧ sc' = sc) ∨
  ((∀ r, r < reg → ¬ pl_fr reg un pl i r) ∧ ∃ x, pl_max reg un pl i x ∧ sc' = sc + 1 ∧ (x = i ∧ pl' = va_up pl i (reg + sc) ∨ x ≠ i ∧ pl' = va_up (va_up pl x (reg + sc)) i (pl x)))
def pl_at (reg : Nat) (un : Nat → Nat) : Nat → (Nat → Nat) → Nat → Prop
  | 0, pl, sc => pl = (fun _ => 0) ∧ sc = 0
  | i + 1, pl', sc' => ∃ pl sc, pl_at reg un i pl sc ∧ pl_step reg un i pl sc pl' sc'
section PLC
variable {reg : Nat} {un pl pl' pl2 : Nat → Nat} {i sc sc' sc2 : Nat}
theorem pl_step_uniq (h : pl_step reg un i pl sc pl' sc') (h2 : pl_step reg un i pl sc pl2 sc2) : pl' = pl2 ∧ sc' = sc2 := by
  rcases h with ⟨r, a1, a2, a3, a4, a5⟩ | ⟨a1, x, a2, a3, a4⟩ <;> rcases h2 with ⟨r2, b1, b2, b3, b4, b5⟩ | ⟨b1, x2, b2, b3, b4⟩
  · have e : r = r2 := by
      rcases Nat.lt_trichotomy r r2 with h | h | h
      · exact absurd a2 (b3 r h)
      · exact h
      · exact absurd b2 (a3 r2 h)
    rw [a4, b4, a5, b5, e]
    exact ⟨rfl, rfl⟩
  · exact absurd a2 (b1 r a1)
  · exact absurd b2 (a1 r2 b1)
  · have e : x = x2 := by
      obtain ⟨c1, c2, c3⟩ := a2
      obtain ⟨d1, d2, d3⟩ := b2
      have f1 : un x2 < un x ∨ un x2 = un x ∧ x2 ≤ x := by
        rcases d1 with e | e
        · rw [e]; exact c2
        · exact c3 x2 e
      have f2 : un x < un x2 ∨ un x = un x2 ∧ x ≤ x2 := by
        rcases c1 with e | e
        · rw [e]; exact d2
        · exact d3 x e
      omega
    subst e
    refine ⟨?_, by omega⟩
    rcases a4 with ⟨e, a4⟩ | ⟨e, a4⟩ <;> rcases b4 with ⟨e2, b4⟩ | ⟨e2, b4⟩
    · rw [a4, b4]
    · exact absurd e e2
    · exact absurd e2 e
    · rw [a4, b4]
theorem pl_at_uniq : ∀ (i : Nat) {pl pl' : Nat → Nat} {sc sc' : Nat}, pl_at reg un i pl sc → pl_at reg un i pl' sc' → pl = pl' ∧ sc = sc'
  | 0, _, _, _, _, h, h' => ⟨h.1.trans h'.1.symm, h.2.trans h'.2.symm⟩
  | i + 1, _, _, _, _, h, h' => by
    obtain ⟨p1, s1, a1, a2⟩ := h
    obtain ⟨p2, s2, b1, b2⟩ := h'
    obtain ⟨rfl, rfl⟩ := pl_at_uniq i a1 b1
    exact pl_step_uniq a2 b2
/-- what is in one place is never needed at once; slots are used once -/
def pl_ok (reg : Nat) (un : Nat → Nat) (i : Nat) (pl : Nat → Nat) (sc : Nat) : Prop :=
  (∀ j k, j < k → k < i → pl j = pl k → un j ≤ k) ∧ (∀ j, j < i → pl j < reg + sc) ∧ (∀ j k, j < i → k < i → reg ≤ pl j → pl j = pl k → j = k) ∧ sc ≤ i
theorem pl_ok_step (hr : 0 < reg) (h : pl_ok reg un i pl sc) (hs : pl_step reg un i pl sc pl' sc') : pl_ok reg un (i + 1) pl' sc' := by
  obtain ⟨h1, h2, h3, h4⟩ := h
  rcases hs with ⟨r, a1, a2, a3, rfl, rfl⟩ | ⟨a1, x, a2, rfl, a4⟩
  · refine ⟨fun j k hjk hk e => ?_, fun j hj => ?_, fun j k hj hk hg e => ?_, by omega⟩
    · by_cases ek : k = i
      · subst ek
        rw [mp_up_n (by omega), mp_up_s] at e
        by_cases hu : un j ≤ k
        · exact hu
        · exact absurd e (a2 j ⟨hjk, by omega, by omega⟩)
      · rw [mp_up_n (by omega), mp_up_n ek] at e
        exact h1 j k hjk (by omega) e
    · by_cases ej : j = i
      · rw [ej, mp_up_s]; omega
      · rw [mp_up_n ej]; exact h2 j (by omega)
    · by_cases ej : j = i
      · rw [ej, mp_up_s] at hg
        omega
      · by_cases ek : k = i
        · rw [mp_up_n ej, ek, mp_up_s] at e
          rw [mp_up_n ej] at hg
          omega
        · rw [mp_up_n ej, mp_up_n ek] at e
          rw [mp_up_n ej] at hg
          exact h3 j k (by omega) (by omega) hg e
  · rcases a4 with ⟨rfl, rfl⟩ | ⟨hx, rfl⟩
    · refine ⟨fun j k hjk hk e => ?_, fun j hj => ?_, fun j k hj hk hg e => ?_, by omega⟩
      · by_cases ek : k = x
        · subst ek
          rw [mp_up_n (by omega), mp_up_s] at e
          have := h2 j (by omega)
          omega
        · rw [mp_up_n (by omega), mp_up_n ek] at e
          exact h1 j k hjk (by omega) e
      · by_cases ej : j = x
        · rw [ej, mp_up_s]; omega
        · rw [mp_up_n ej]
          have := h2 j (by omega)
          omega
      · by_cases ej : j = x
        · by_cases ek : k = x
          · omega
          · rw [ej, mp_up_s, mp_up_n ek] at e
            have := h2 k (by omega)
            omega
        · by_cases ek : k = x
          · rw [mp_up_n ej, ek, mp_up_s] at e
            have := h2 j (by omega)
            omega
          · rw [mp_up_n ej, mp_up_n ek] at e
            rw [mp_up_n ej] at hg
            exact h3 j k (by omega) (by omega) hg e
    · have hh : pl_held reg un pl i x := by
        rcases a2.1 with e | e
        · exact absurd e hx
        · exact e
      obtain ⟨g1, g2, g3⟩ := hh
      have u : ∀ j, va_up (va_up pl x (reg + sc)) i (pl x) j = if j = i then pl x else if j = x then reg + sc else pl j := fun j => rfl
      refine ⟨fun j k hjk hk e => ?_, fun j hj => ?_, fun j k hj hk hg e => ?_, by omega⟩
      · rw [u, u] at e
        rw [if_neg (show j ≠ i by omega)] at e
        by_cases ek : k = i
        · rw [if_pos ek] at e
          by_cases ej : j = x
          · rw [if_pos ej] at e
            have := h2 x g1
            omega
          · rw [if_neg ej] at e
            rcases Nat.lt_or_gt_of_ne ej with h | h
            · have := h1 j x h g1 e
              omega
            · have := h1 x j h (by omega) e.symm
              omega
        · rw [if_neg ek] at e
          by_cases ej : j = x
          · rw [if_pos ej, if_neg (show k ≠ x by omega)] at e
            have := h2 k (by omega)
            omega
          · rw [if_neg ej] at e
            by_cases ekx : k = x
            · rw [if_pos ekx] at e
              have := h2 j (by omega)
              omega
            · rw [if_neg ekx] at e
              exact h1 j k hjk (by omega) e
      · rw [u]
        have := h2 x g1
        split
        · omega
        · split
          · omega
          · have := h2 j (by omega)
            omega
      · rw [u] at hg e
        rw [u] at e
        by_cases ej : j = i
        · rw [if_pos ej] at hg
          omega
        · rw [if_neg ej] at hg e
          by_cases ek : k = i
          · rw [if_pos ek] at e
            by_cases ejx : j = x
            · rw [if_pos ejx] at e
              omega
            · rw [if_neg ejx] at e hg
              omega
          · rw [if_neg ek] at e
            by_cases ejx : j = x
            · by_cases ekx : k = x
              · omega
              · rw [if_pos ejx, if_neg ekx] at e
                have := h2 k (by omega)
                omega
            · rw [if_neg ejx] at e hg
              by_cases ekx : k = x
              · rw [if_pos ekx] at e
                have := h2 j (by omega)
                omega
              · rw [if_neg ekx] at e
                exact h3 j k (by omega) (by omega) hg e
theorem pl_ok_at (hr : 0 < reg) : ∀ (i : Nat) {pl : Nat → Nat} {sc : Nat}, pl_at reg un i pl sc → pl_ok reg un i pl sc
  | 0, _, _, h => by
    obtain ⟨rfl, rfl⟩ := h
    exact ⟨fun j k _ hk => absurd hk (Nat.not_lt_zero _), fun j hj => absurd hj (Nat.not_lt_zero _), fun j k hj => absurd hj (Nat.not_lt_zero _), Nat.le_refl _⟩
  | i + 1, _, _, h => by
    obtain ⟨p1, s1, a1, a2⟩ := h
    exact pl_ok_step hr (pl_ok_at hr i a1) a2
end PLC
end
section
/-! The rules of a node's cover: from the kind that is wanted along the choices down to the operator's rule. -/
def fo_path (rl : mx_R) (q : Nat → Nat) : Nat → List Nat → Prop
  | _, [] => False
  | k, [r] => r = q k ∧ (rl r).2.1 ≠ 8
  | k, r :: L => r = q k ∧ (rl r).2.1 = 8 ∧ fo_path rl q (rl r).2.2.1 L
section FO
variable {rl : mx_R} {R o : Nat} {lf rt g q : Nat → Nat}
theorem fo_cons {k r r2 : Nat} {L : List Nat} (h : fo_path rl q k (r :: r2 :: L)) : r = q k ∧ (rl r).2.1 = 8 ∧ fo_path rl q (rl r).2.2.1 (r2 :: L) := h
theorem fo_ex (hok : mx_ok rl R) (h : mx_Lab rl R o lf rt g q) : ∀ n k, k < 4 → g k < mx_far → ns_rk g (g k) ≤ n → ∃ L, fo_path rl q k L ∧ L.length ≤ n + 1 := by
  intro n
  induction n with
  | zero =>
    intro k hk hf hn
    obtain ⟨x1, x2, x3, x4⟩ := (h.2 k hk).1 hf
    by_cases h8 : (rl (q k)).2.1 = 8
    · exfalso
      rw [mx_th_ch h8] at x3
      have hb := hok _ x1
      have hp := hb.2.2.2.2.2 h8
      have := ns_rk_lt (g := g) (v := g (rl (q k)).2.2.1) (w := g k) hb.2.2.1 rfl (by omega)
      omega
    · exact ⟨[q k], ⟨rfl, h8⟩, by simp⟩
  | succ n ih =>
    intro k hk hf hn
    obtain ⟨x1, x2, x3, x4⟩ := (h.2 k hk).1 hf
    by_cases h8 : (rl (q k)).2.1 = 8
    · rw [mx_th_ch h8] at x3
      have hb := hok _ x1
      have hp := hb.2.2.2.2.2 h8
      have := ns_rk_lt (g := g) (v := g (rl (q k)).2.2.1) (w := g k) hb.2.2.1 rfl (by omega)
      obtain ⟨L, hL, hl⟩ := ih _ hb.2.2.1 (by omega) (by omega)
      cases L with
      | nil => exact absurd hL id
      | cons r2 L => exact ⟨q k :: r2 :: L, ⟨rfl, h8, hL⟩, by simp at hl ⊢; omega⟩
    · exact ⟨[q k], ⟨rfl, h8⟩, by simp⟩
/-- a kind with a cover has a path of at most four rules -/
theorem fo_four (hok : mx_ok rl R) (h : mx_Lab rl R o lf rt g q) {k : Nat} (hk : k < 4) (hf : g k < mx_far) : ∃ L, fo_path rl q k L ∧ L.length ≤ 4 :=
  fo_ex hok h 3 k hk hf (ns_rk_le (g k) k hk rfl)
/-- its last rule is one of the operator's, over kids that have covers -/
theorem fo_last (hok : mx_ok rl R) (h : mx_Lab rl R o lf rt g q) : ∀ (L : List Nat) (k : Nat), k < 4 → g k < mx_far → fo_path rl q k L → ∃ r, L.getLast? = some r ∧ r < R ∧ (rl r).2.1 = o ∧ (0 < zz_kd o → lf (rl r).2.2.1 < mx_far) ∧ (1 < zz_kd o → rt (rl r).2.2.2.1 < mx_far)
  | [], _, _, _, hp => absurd hp id
  | [r], k, hk, hf, hp => by
    obtain ⟨rfl, h8⟩ := hp
    obtain ⟨x1, x2, x3, x4⟩ := (h.2 k hk).1 hf
    rw [mx_th, if_neg h8] at x3
    by_cases ho : (rl (q k)).2.1 = o
    · rw [if_pos ho] at x3
      refine ⟨q k, rfl, x1, ho, fun h => ?_, fun h => ?_⟩
      · rw [if_pos h] at x3; omega
      · rw [if_pos h] at x3; omega
    · rw [if_neg ho] at x3
      omega
  | r :: r2 :: L, k, hk, hf, hp => by
    obtain ⟨rfl, h8, hp⟩ := fo_cons hp
    obtain ⟨x1, x2, x3, x4⟩ := (h.2 k hk).1 hf
    rw [mx_th_ch h8] at x3
    have hb := hok _ x1
    obtain ⟨r', e, he⟩ := fo_last hok h (r2 :: L) (rl (q k)).2.2.1 hb.2.2.1 (by omega) hp
    exact ⟨r', by rw [List.getLast?_cons_cons]; exact e, he⟩
theorem fo_uniq : ∀ (L M : List Nat) (k : Nat), fo_path rl q k L → fo_path rl q k M → L = M
  | [], _, _, h, _ => absurd h id
  | _, [], _, _, h => absurd h id
  | [r], [r'], k, h, h' => by rw [h.1, h'.1]
  | [r], r' :: r2 :: M, k, h, h' => by
    obtain ⟨e, h8, _⟩ := fo_cons h'
    rw [e, ← h.1] at h8
    exact absurd h8 h.2
  | r :: r2 :: L, [r'], k, h, h' => by
    obtain ⟨e, h8, _⟩ := fo_cons h
    rw [e, ← h'.1] at h8
    exact absurd h8 h'.2
  | r :: r2 :: L, r' :: r2' :: M, k, h, h' => by
    obtain ⟨e, _, h1⟩ := fo_cons h
    obtain ⟨e', _, h1'⟩ := fo_cons h'
    rw [e'.trans e.symm] at h1'
    rw [fo_uniq (r2 :: L) (r2' :: M) _ h1 h1', e, e']
end FO
end
section
/-! The code: instructions are put behind one another. (how many, rule, node, op, number, sources, last use); 1000 stands for 'no source'. -/
abbrev cd_T : Type := Nat × (Nat → Nat) × (Nat → Nat) × (Nat → Nat) × (Nat → Int32) × (Nat → Nat) × (Nat → Nat) × (Nat → Nat)
def cd_un (un : Nat → Nat) (n a : Nat) : Nat → Nat := if a < 1000 then va_up un a n else un
def cd_ap (s : cd_T) (r nd o : Nat) (nu : Int32) (a b : Nat) : cd_T :=
  (s.1 + 1, va_up s.2.1 s.1 r, va_up s.2.2.1 s.1 nd, va_up s.2.2.2.1 s.1 o, upd s.2.2.2.2.1 s.1 nu, va_up s.2.2.2.2.2.1 s.1 a, va_up s.2.2.2.2.2.2.1 s.1 b, cd_un (cd_un (va_up s.2.2.2.2.2.2.2 s.1 s.1) s.1 a) s.1 b)
def cd_0 : cd_T := (0, fun _ => 0, fun _ => 0, fun _ => 0, fun _ => 0, fun _ => 0, fun _ => 0, fun _ => 0)
/-- the chain rules, the first of the list first -/
def cd_ch (nd : Nat) : List Nat → cd_T → cd_T
  | [], s => s
  | r :: L, s => cd_ch nd L (cd_ap s r nd 8 0 (s.1 - 1) 1000)
def cd_ok (s : cd_T) : Prop := ∀ i, i < s.1 → i ≤ s.2.2.2.2.2.2.2 i ∧ s.2.2.2.2.2.2.2 i < s.1 ∧ (s.2.2.2.2.2.1 i < 1000 → s.2.2.2.2.2.1 i < i ∧ i ≤ s.2.2.2.2.2.2.2 (s.2.2.2.2.2.1 i)) ∧ (s.2.2.2.2.2.2.1 i < 1000 → s.2.2.2.2.2.2.1 i < i ∧ i ≤ s.2.2.2.2.2.2.2 (s.2.2.2.2.2.2.1 i))
section CD
theorem cd_un_le {un : Nat → Nat} {n a j : Nat} (h : un j ≤ n) : un j ≤ cd_un un n a j ∧ cd_un un n a j ≤ n := by
  rw [cd_un]
  split
  · by_cases e : j = a
    · rw [e, mp_up_s]
      rw [e] at h
      omega
    · rw [mp_up_n e]
      omega
  · omega
theorem cd_un_at {un : Nat → Nat} {n a : Nat} (h : a < 1000) : cd_un un n a a = n := by
  rw [cd_un, if_pos h, mp_up_s]
theorem cd_ok_ap {s : cd_T} {r nd o a b : Nat} {nu : Int32} (h : cd_ok s) (ha : a < 1000 → a < s.1) (hb : b < 1000 → b < s.1) : cd_ok (cd_ap s r nd o nu a b) := by
  obtain ⟨n, cr, cn, co, cm, sa, sb, un⟩ := s
  have h : ∀ i, i < n → i ≤ un i ∧ un i < n ∧ (sa i < 1000 → sa i < i ∧ i ≤ un (sa i)) ∧ (sb i < 1000 → sb i < i ∧ i ≤ un (sb i)) := h
  have ha : a < 1000 → a < n := ha
  have hb : b < 1000 → b < n := hb
  intro i hi
  have hi : i < n + 1 := hi
  show i ≤ cd_un (cd_un (va_up un n n) n a) n b i ∧ cd_un (cd_un (va_up un n n) n a) n b i < n + 1 ∧ (va_up sa n a i < 1000 → va_up sa n a i < i ∧ i ≤ cd_un (cd_un (va_up un n n) n a) n b (va_up sa n a i)) ∧ (va_up sb n b i < 1000 → va_up sb n b i < i ∧ i ≤ cd_un (cd_un (va_up un n n) n a) n b (va_up sb n b i))
  have v : ∀ j, j < n + 1 → va_up un n n j ≤ cd_un (cd_un (va_up un n n) n a) n b j ∧ cd_un (cd_un (va_up un n n) n a) n b j ≤ n := fun j hj => by
    have h0 : va_up un n n j ≤ n := by
      by_cases e : j = n
      · rw [e, mp_up_s]; exact Nat.le_refl _
      · rw [mp_up_n e]
        exact Nat.le_of_lt (h j (by omega)).2.1
    have h1 := cd_un_le (a := a) h0
    have h2 := cd_un_le (a := b) h1.2
    omega
  have vi := v i hi
  by_cases e : i = n
  · subst e
    rw [mp_up_s] at vi
    rw [mp_up_s, mp_up_s]
    refine ⟨by omega, by omega, fun h1 => ⟨ha h1, ?_⟩, fun h1 => ⟨hb h1, ?_⟩⟩
    · have hk := cd_un_at (un := va_up un i i) (n := i) h1
      have := cd_un_le (un := cd_un (va_up un i i) i a) (n := i) (a := b) (j := a) (by omega)
      omega
    · rw [cd_un_at h1]
      exact Nat.le_refl _
  · rw [mp_up_n e] at vi
    rw [mp_up_n e, mp_up_n e]
    obtain ⟨x1, x2, x3, x4⟩ := h i (by omega)
    refine ⟨by omega, by omega, fun h1 => ?_, fun h1 => ?_⟩
    · have := x3 h1
      have w := v (sa i) (by omega)
      rw [mp_up_n (show sa i ≠ n by omega)] at w
      omega
    · have := x4 h1
      have w := v (sb i) (by omega)
      rw [mp_up_n (show sb i ≠ n by omega)] at w
      omega
theorem cd_ok_0 : cd_ok cd_0 := fun i hi => absurd hi (Nat.not_lt_zero _)
end CD
end
section
/-! Running the code: by results of instructions (the reference), by places (the class). -/
def ex_cal (vr : Nat → Int32) (o : Nat) (v a b : Int32) : Int32 :=
  if o = 0 then v else if o = 1 then vr v.toNatClampNeg else if o = 2 then 100 + v else if o = 3 then -a else if o = 4 then a + a else if o = 5 then a + b else if o = 6 then a - b else if o = 7 then a * b else a
def ex_src (res : Nat → Int32) (s : Nat) : Int32 := if s < 1000 then res s else 0
def ex_ok (vr : Nat → Int32) (s : cd_T) (res : Nat → Int32) : Prop := ∀ i, i < s.1 → res i = ex_cal vr (s.2.2.2.1 i) (s.2.2.2.2.1 i) (ex_src res (s.2.2.2.2.2.1 i)) (ex_src res (s.2.2.2.2.2.2.1 i))
/-- what the places hold ahead of instruction i -/
def ex_mem (un pl : Nat → Nat) (res mem : Nat → Int32) (i : Nat) : Prop := (∀ j, j < i → i ≤ un j → mem (pl j) = res j) ∧ (0 < i → mem (pl (i - 1)) = res (i - 1))
theorem ex_mem_0 {un pl : Nat → Nat} {res mem : Nat → Int32} : ex_mem un pl res mem 0 := ⟨fun j hj => absurd hj (Nat.not_lt_zero _), fun h => absurd h (Nat.lt_irrefl _)⟩
theorem ex_mem_s {reg sc n i : Nat} {un pl : Nat → Nat} {res mem : Nat → Int32} (hok : pl_ok reg un n pl sc) (hi : i < n) (h : ex_mem un pl res mem i) : ex_mem un pl res (upd mem (pl i) (res i)) (i + 1) := by
  refine ⟨fun j hj hu => ?_, fun _ => ?_⟩
  · by_cases e : j = i
    · rw [e]; exact pk_us
    · have hne : pl j ≠ pl i := fun h2 => by
        have := hok.1 j i (by omega) hi h2
        omega
      rw [pk_un hne]
      exact h.1 j (by omega) (by omega)
  · show upd mem (pl i) (res i) (pl i) = res i
    exact pk_us
theorem ex_uniq {vr : Nat → Int32} {s : cd_T} {res res' : Nat → Int32} (hc : cd_ok s) (h : ex_ok vr s res) (h' : ex_ok vr s res') : ∀ i, i < s.1 → res i = res' i := by
  intro i
  induction i using Nat.strongRecOn with
  | ind i ih =>
    intro hi
    have e1 : ex_src res (s.2.2.2.2.2.1 i) = ex_src res' (s.2.2.2.2.2.1 i) := by
      rw [ex_src, ex_src]
      split
      · rename_i hs
        have := ((hc i hi).2.2.1 hs).1
        exact ih _ this (by omega)
      · rfl
    have e2 : ex_src res (s.2.2.2.2.2.2.1 i) = ex_src res' (s.2.2.2.2.2.2.1 i) := by
      rw [ex_src, ex_src]
      split
      · rename_i hs
        have := ((hc i hi).2.2.2 hs).1
        exact ih _ this (by omega)
      · rfl
    rw [h i hi, h' i hi, e1, e2]
end
section
/-! Trees in a row: every node behind its kids. -/
def tr_ok (op sz : Nat → Nat) (m : Nat) : Prop := ∀ i, i < m → op i < 8 ∧ 1 ≤ sz i ∧ sz i ≤ i + 1 ∧ (zz_kd (op i) = 0 → sz i = 1) ∧ (zz_kd (op i) = 1 → 1 ≤ i ∧ sz i = 1 + sz (i - 1)) ∧ (zz_kd (op i) = 2 → 2 ≤ i ∧ sz (i - 1) + 1 ≤ i ∧ sz i = 1 + sz (i - 1 - sz (i - 1)) + sz (i - 1))
def tr_fa (op sz : Nat → Nat) (i : Nat) : Nat := if zz_kd (op i) = 2 then i - 1 - sz (i - 1) else i - 1
theorem tr_kd (k : Nat) : zz_kd k = 0 ∨ zz_kd k = 1 ∨ zz_kd k = 2 := by
  unfold zz_kd
  split
  · exact Or.inl rfl
  · split
    · exact Or.inr (Or.inl rfl)
    · exact Or.inr (Or.inr rfl)
/-- the trees that are left ahead of x, down to fm; of each root 'ok' holds -/
def tr_fr (sz : Nat → Nat) (ok : Nat → Prop) (fm : Nat) : Nat → List Nat → Prop
  | x, [] => x = fm
  | x, p :: L => x = p + 1 ∧ fm + sz p ≤ x ∧ ok p ∧ tr_fr sz ok fm (x - sz p) L
section TR
variable {op sz : Nat → Nat} {ok ok' : Nat → Prop} {m fm x : Nat}
theorem tr_fr_ge {L : List Nat} (h : tr_fr sz ok fm x L) : fm ≤ x := by
  cases L with
  | nil => exact Nat.le_of_eq h.symm
  | cons p L =>
    have := h.2.1
    omega
theorem tr_fr_mono : ∀ (L : List Nat) {x : Nat}, tr_fr sz ok fm x L → (∀ p, p < x → fm ≤ p → ok p → ok' p) → (∀ i, i < x → 1 ≤ sz i) → tr_fr sz ok' fm x L
  | [], _, h, _, _ => h
  | p :: L, x, h, hm, hs => by
    obtain ⟨h1, h2, h3, h4⟩ := h
    have := hs p (by omega)
    have h5 := tr_fr_ge h4
    exact ⟨h1, h2, hm p (by omega) (by omega) h3, tr_fr_mono L h4 (fun p hp => hm p (by omega)) (fun i hi => hs i (by omega))⟩
/-- the last tree's root is taken: its kids' trees are left -/
theorem tr_fr_step (ht : tr_ok op sz m) {p : Nat} {L : List Nat} (hp : p < m) (h : tr_fr sz ok fm (p + 1) L) (hne : fm ≤ p) (h1 : zz_kd (op p) = 1 → ok' (p - 1)) (h2 : zz_kd (op p) = 2 → ok' (p - 1) ∧ ok' (tr_fa op sz p)) (hm : ∀ i, i + sz p ≤ p → fm ≤ i → ok i → ok' i) : ∃ L', tr_fr sz ok' fm p L' := by
  obtain ⟨t1, t2, t3, t4, t5, t6⟩ := ht p hp
  cases L with
  | nil =>
    have h : p + 1 = fm := h
    omega
  | cons p' L =>
    obtain ⟨a1, a2, a3, a4⟩ := h
    have e : p' = p := by omega
    subst e
    have hs : ∀ i, i < p' + 1 → 1 ≤ sz i := fun i hi => (ht i (by omega)).2.1
    have hL : tr_fr sz ok' fm (p' + 1 - sz p') L := tr_fr_mono L a4 (fun i hi hf => hm i (by omega) hf) (fun i hi => hs i (by omega))
    rcases tr_kd (op p') with hk | hk | hk
    · have := t4 hk
      refine ⟨L, ?_⟩
      rw [show p' + 1 - sz p' = p' by omega] at hL
      exact hL
    · obtain ⟨b1, b2⟩ := t5 hk
      refine ⟨(p' - 1) :: L, by omega, by omega, h1 hk, ?_⟩
      rw [show p' + 1 - sz p' = p' - sz (p' - 1) by omega] at hL
      exact hL
    · obtain ⟨b1, b2, b3⟩ := t6 hk
      have ef : tr_fa op sz p' = p' - 1 - sz (p' - 1) := by rw [tr_fa, if_pos hk]
      have c := h2 hk
      rw [ef] at c
      refine ⟨(p' - 1) :: (p' - 1 - sz (p' - 1)) :: L, by omega, by omega, c.1, by omega, by omega, c.2, ?_⟩
      rw [show p' + 1 - sz p' = p' - sz (p' - 1) - sz (p' - 1 - sz (p' - 1)) by omega] at hL
      exact hL
/-- a node's kids lie ahead of it, in its own tree -/
theorem tr_kid (ht : tr_ok op sz m) {p : Nat} {L : List Nat} (hp : p < m) (h : tr_fr sz ok fm (p + 1) L) (hne : fm ≤ p) : ok p ∧ (0 < zz_kd (op p) → fm ≤ p - 1 ∧ 1 ≤ p ∧ fm ≤ tr_fa op sz p ∧ tr_fa op sz p < p) := by
  obtain ⟨t1, t2, t3, t4, t5, t6⟩ := ht p hp
  cases L with
  | nil =>
    have h : p + 1 = fm := h
    omega
  | cons p' L =>
    obtain ⟨a1, a2, a3, a4⟩ := h
    have e : p' = p := by omega
    subst e
    refine ⟨a3, fun hk0 => ?_⟩
    rcases tr_kd (op p') with hk | hk | hk
    · omega
    · obtain ⟨b1, b2⟩ := t5 hk
      have := (ht (p' - 1) (by omega)).2.1
      rw [tr_fa, if_neg (by omega)]
      omega
    · obtain ⟨b1, b2, b3⟩ := t6 hk
      have c1 := (ht (p' - 1) (by omega)).2.1
      have c2 := (ht (p' - 1 - sz (p' - 1)) (by omega)).2.1
      rw [tr_fa, if_pos hk]
      omega
end TR
end
