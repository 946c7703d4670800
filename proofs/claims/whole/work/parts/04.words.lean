/-! The words of the tables, each by its place in lw_tbl. -/
theorem wd_41 : Cond.methodLink "TreeCoverForgeLaw" 9 y_Forge_init ∈ zz_tbl := zz_in (i := 41) (by decide +kernel) rfl
theorem wd_44 : Cond.methodLink "TreeCoverForge" 3 y_Object_init ∈ zz_tbl := zz_in (i := 44) (by decide +kernel) rfl
theorem wd_49 : Cond.methodLinkNest "TreeCoverForge" 11 y_Book_init "TreeCoverForge" ∈ lw_tbl := List.mem_of_getElem? (i := 49) (by decide +kernel)
theorem wd_52 : Cond.methodLink "TreeCoverForge$RuleBook" 3 y_Object_init ∈ zz_tbl := zz_in (i := 52) (by decide +kernel) rfl
theorem wd_55 : Cond.fieldLink "TreeCoverForge$RuleBook" 9 "TreeCoverForge$RuleBook" "kinds" "[I" ∈ zz_tbl := zz_in (i := 55) (by decide +kernel) rfl
theorem wd_56 : Cond.fieldLink "TreeCoverForge$Label" 57 "TreeCoverForge$RuleBook" "kinds" "[I" ∈ zz_tbl := zz_in (i := 56) (by decide +kernel) rfl
theorem wd_57 : Cond.fieldLink "TreeCoverForge$RuleBook" 15 "TreeCoverForge$RuleBook" "ops" "[I" ∈ zz_tbl := zz_in (i := 57) (by decide +kernel) rfl
theorem wd_58 : Cond.fieldLink "TreeCoverForge$Code" 101 "TreeCoverForge$RuleBook" "ops" "[I" ∈ zz_tbl := zz_in (i := 58) (by decide +kernel) rfl
theorem wd_59 : Cond.fieldLink "TreeCoverForge$RuleBook" 18 "TreeCoverForge$RuleBook" "firsts" "[I" ∈ zz_tbl := zz_in (i := 59) (by decide +kernel) rfl
theorem wd_60 : Cond.fieldLink "TreeCoverForge$Label" 39 "TreeCoverForge$RuleBook" "firsts" "[I" ∈ zz_tbl := zz_in (i := 60) (by decide +kernel) rfl
theorem wd_61 : Cond.fieldLink "TreeCoverForge$Code" 88 "TreeCoverForge$RuleBook" "firsts" "[I" ∈ zz_tbl := zz_in (i := 61) (by decide +kernel) rfl
theorem wd_62 : Cond.fieldLink "TreeCoverForge$RuleBook" 21 "TreeCoverForge$RuleBook" "seconds" "[I" ∈ zz_tbl := zz_in (i := 62) (by decide +kernel) rfl
theorem wd_63 : Cond.fieldLink "TreeCoverForge$Label" 42 "TreeCoverForge$RuleBook" "seconds" "[I" ∈ zz_tbl := zz_in (i := 63) (by decide +kernel) rfl
theorem wd_64 : Cond.fieldLink "TreeCoverForge$Code" 91 "TreeCoverForge$RuleBook" "seconds" "[I" ∈ zz_tbl := zz_in (i := 64) (by decide +kernel) rfl
theorem wd_65 : Cond.fieldLink "TreeCoverForge$RuleBook" 24 "TreeCoverForge$RuleBook" "costs" "[I" ∈ zz_tbl := zz_in (i := 65) (by decide +kernel) rfl
theorem wd_66 : Cond.fieldLink "TreeCoverForge$Label" 60 "TreeCoverForge$RuleBook" "costs" "[I" ∈ zz_tbl := zz_in (i := 66) (by decide +kernel) rfl
theorem wd_67 : Cond.fieldLink "TreeCoverForge$RuleBook" 29 "TreeCoverForge$RuleBook" "numbersOf" "[[I" ∈ zz_tbl := zz_in (i := 67) (by decide +kernel) rfl
theorem wd_68 : Cond.fieldLink "TreeCoverForge$Label" 35 "TreeCoverForge$RuleBook" "numbersOf" "[[I" ∈ zz_tbl := zz_in (i := 68) (by decide +kernel) rfl
theorem wd_69 : Cond.fieldLink "TreeCoverForge$RuleBook" 32 "TreeCoverForge$RuleBook" "sizeOf" "[I" ∈ zz_tbl := zz_in (i := 69) (by decide +kernel) rfl
theorem wd_70 : Cond.fieldLink "TreeCoverForge$Label" 30 "TreeCoverForge$RuleBook" "sizeOf" "[I" ∈ zz_tbl := zz_in (i := 70) (by decide +kernel) rfl
theorem wd_71 : Cond.fieldLink "TreeCoverForge$RuleBook" 35 "TreeCoverForge$RuleBook" "count" "I" ∈ zz_tbl := zz_in (i := 71) (by decide +kernel) rfl
theorem wd_72 : Cond.fieldLink "TreeCoverForge" 57 "TreeCoverForge$RuleBook" "count" "I" ∈ zz_tbl := zz_in (i := 72) (by decide +kernel) rfl
theorem wd_93 : Cond.methodLink "TreeCoverForge" 18 y_Pile_init ∈ zz_tbl := zz_in (i := 93) (by decide +kernel) rfl
theorem wd_96 : Cond.methodLink "TreeCoverForge$Pile" 3 y_Object_init ∈ zz_tbl := zz_in (i := 96) (by decide +kernel) rfl
theorem wd_100 : Cond.methodLinkNest "TreeCoverForge$Pile" 33 y_Label_init "TreeCoverForge" ∈ lw_tbl := List.mem_of_getElem? (i := 100) (by decide +kernel)
theorem wd_103 : Cond.methodLink "TreeCoverForge$Label" 3 y_Object_init ∈ zz_tbl := zz_in (i := 103) (by decide +kernel) rfl
theorem wd_104 : Cond.fieldLink "TreeCoverForge$Label" 9 "TreeCoverForge$Label" "costs" "[J" ∈ zz_tbl := zz_in (i := 104) (by decide +kernel) rfl
theorem wd_105 : Cond.fieldLink "TreeCoverForge" 115 "TreeCoverForge$Label" "costs" "[J" ∈ zz_tbl := zz_in (i := 105) (by decide +kernel) rfl
theorem wd_106 : Cond.fieldLink "TreeCoverForge$Label" 15 "TreeCoverForge$Label" "choices" "[I" ∈ zz_tbl := zz_in (i := 106) (by decide +kernel) rfl
theorem wd_107 : Cond.fieldLink "TreeCoverForge$Code" 96 "TreeCoverForge$Label" "choices" "[I" ∈ zz_tbl := zz_in (i := 107) (by decide +kernel) rfl
theorem wd_108 : Cond.fieldLink "TreeCoverForge" 123 "TreeCoverForge$Label" "choices" "[I" ∈ zz_tbl := zz_in (i := 108) (by decide +kernel) rfl
theorem wd_115 : Cond.fieldLink "TreeCoverForge$Pile" 9 "TreeCoverForge$Pile" "ops" "[I" ∈ zz_tbl := zz_in (i := 115) (by decide +kernel) rfl
theorem wd_116 : Cond.fieldLink "TreeCoverForge$Code" 80 "TreeCoverForge$Pile" "ops" "[I" ∈ zz_tbl := zz_in (i := 116) (by decide +kernel) rfl
theorem wd_117 : Cond.fieldLink "TreeCoverForge$Pile" 15 "TreeCoverForge$Pile" "numbers" "[I" ∈ zz_tbl := zz_in (i := 117) (by decide +kernel) rfl
theorem wd_118 : Cond.fieldLink "TreeCoverForge$Code" 102 "TreeCoverForge$Pile" "numbers" "[I" ∈ zz_tbl := zz_in (i := 118) (by decide +kernel) rfl
theorem wd_119 : Cond.fieldLink "TreeCoverForge$Pile" 18 "TreeCoverForge$Pile" "sizes" "[I" ∈ zz_tbl := zz_in (i := 119) (by decide +kernel) rfl
theorem wd_120 : Cond.fieldLink "TreeCoverForge$Pile" 21 "TreeCoverForge$Pile" "heights" "[I" ∈ zz_tbl := zz_in (i := 120) (by decide +kernel) rfl
theorem wd_121 : Cond.fieldLink "TreeCoverForge$Pile" 24 "TreeCoverForge$Pile" "results" "[I" ∈ zz_tbl := zz_in (i := 121) (by decide +kernel) rfl
theorem wd_122 : Cond.fieldLink "TreeCoverForge$Pile" 29 "TreeCoverForge$Pile" "labels" "[LTreeCoverForge$Label;" ∈ zz_tbl := zz_in (i := 122) (by decide +kernel) rfl
theorem wd_123 : Cond.fieldLink "TreeCoverForge$Code" 92 "TreeCoverForge$Pile" "labels" "[LTreeCoverForge$Label;" ∈ zz_tbl := zz_in (i := 123) (by decide +kernel) rfl
theorem wd_124 : Cond.fieldLink "TreeCoverForge$Pile" 34 "TreeCoverForge$Pile" "noKid" "LTreeCoverForge$Label;" ∈ zz_tbl := zz_in (i := 124) (by decide +kernel) rfl
theorem wd_125 : Cond.fieldLink "TreeCoverForge$Pile" 42 "TreeCoverForge$Pile" "nodeCount" "I" ∈ zz_tbl := zz_in (i := 125) (by decide +kernel) rfl
theorem wd_126 : Cond.fieldLink "TreeCoverForge$Code" 65 "TreeCoverForge$Pile" "nodeCount" "I" ∈ zz_tbl := zz_in (i := 126) (by decide +kernel) rfl
theorem wd_127 : Cond.fieldLink "TreeCoverForge" 86 "TreeCoverForge$Pile" "nodeCount" "I" ∈ zz_tbl := zz_in (i := 127) (by decide +kernel) rfl
theorem wd_128 : Cond.fieldLink "TreeCoverForge$Pile" 38 "TreeCoverForge$Pile" "treeCount" "I" ∈ zz_tbl := zz_in (i := 128) (by decide +kernel) rfl
theorem wd_129 : Cond.fieldLink "TreeCoverForge" 80 "TreeCoverForge$Pile" "treeCount" "I" ∈ zz_tbl := zz_in (i := 129) (by decide +kernel) rfl
theorem wd_130 : Cond.fieldLink "TreeCoverForge$Pile" 65 "TreeCoverForge$Pile" "labelledCount" "I" ∈ zz_tbl := zz_in (i := 130) (by decide +kernel) rfl
theorem wd_131 : Cond.fieldLink "TreeCoverForge" 152 "TreeCoverForge$Pile" "labelledCount" "I" ∈ zz_tbl := zz_in (i := 131) (by decide +kernel) rfl
theorem wd_155 : Cond.methodLink "TreeCoverForge" 25 y_Table_init ∈ zz_tbl := zz_in (i := 155) (by decide +kernel) rfl
theorem wd_158 : Cond.methodLink "TreeCoverForge$StateTable" 3 y_Object_init ∈ zz_tbl := zz_in (i := 158) (by decide +kernel) rfl
theorem wd_160 : Cond.methodLinkNest "TreeCoverForge$StateTable" 17 y_Label_init "TreeCoverForge" ∈ lw_tbl := List.mem_of_getElem? (i := 160) (by decide +kernel)
theorem wd_161 : Cond.fieldLink "TreeCoverForge$StateTable" 11 "TreeCoverForge$StateTable" "found" "[LTreeCoverForge$Label;" ∈ zz_tbl := zz_in (i := 161) (by decide +kernel) rfl
theorem wd_162 : Cond.fieldLink "TreeCoverForge$StateTable" 18 "TreeCoverForge$StateTable" "noKid" "LTreeCoverForge$Label;" ∈ zz_tbl := zz_in (i := 162) (by decide +kernel) rfl
theorem wd_163 : Cond.fieldLink "TreeCoverForge$StateTable" 26 "TreeCoverForge$StateTable" "foundCount" "I" ∈ zz_tbl := zz_in (i := 163) (by decide +kernel) rfl
theorem wd_164 : Cond.fieldLink "TreeCoverForge$StateTable" 22 "TreeCoverForge$StateTable" "counted" "I" ∈ zz_tbl := zz_in (i := 164) (by decide +kernel) rfl
theorem wd_165 : Cond.fieldLink "TreeCoverForge" 70 "TreeCoverForge$StateTable" "counted" "I" ∈ zz_tbl := zz_in (i := 165) (by decide +kernel) rfl
theorem wd_177 : Cond.methodLinkNest "TreeCoverForge" 32 y_Code_init "TreeCoverForge" ∈ lw_tbl := List.mem_of_getElem? (i := 177) (by decide +kernel)
theorem wd_180 : Cond.methodLink "TreeCoverForge$Code" 3 y_Object_init ∈ zz_tbl := zz_in (i := 180) (by decide +kernel) rfl
theorem wd_181 : Cond.fieldLink "TreeCoverForge$Code" 9 "TreeCoverForge$Code" "rules" "[I" ∈ zz_tbl := zz_in (i := 181) (by decide +kernel) rfl
theorem wd_182 : Cond.fieldLink "TreeCoverForge$Code" 15 "TreeCoverForge$Code" "nodes" "[I" ∈ zz_tbl := zz_in (i := 182) (by decide +kernel) rfl
theorem wd_183 : Cond.fieldLink "TreeCoverForge$Code" 18 "TreeCoverForge$Code" "ops" "[I" ∈ zz_tbl := zz_in (i := 183) (by decide +kernel) rfl
theorem wd_184 : Cond.fieldLink "TreeCoverForge$Code" 21 "TreeCoverForge$Code" "numbers" "[I" ∈ zz_tbl := zz_in (i := 184) (by decide +kernel) rfl
theorem wd_185 : Cond.fieldLink "TreeCoverForge$Code" 24 "TreeCoverForge$Code" "firsts" "[I" ∈ zz_tbl := zz_in (i := 185) (by decide +kernel) rfl
theorem wd_186 : Cond.fieldLink "TreeCoverForge$Code" 27 "TreeCoverForge$Code" "seconds" "[I" ∈ zz_tbl := zz_in (i := 186) (by decide +kernel) rfl
theorem wd_187 : Cond.fieldLink "TreeCoverForge$Code" 30 "TreeCoverForge$Code" "lastUses" "[I" ∈ zz_tbl := zz_in (i := 187) (by decide +kernel) rfl
theorem wd_188 : Cond.fieldLink "TreeCoverForge$Code" 33 "TreeCoverForge$Code" "places" "[I" ∈ zz_tbl := zz_in (i := 188) (by decide +kernel) rfl
theorem wd_189 : Cond.fieldLink "TreeCoverForge$Code" 36 "TreeCoverForge$Code" "memory" "[I" ∈ zz_tbl := zz_in (i := 189) (by decide +kernel) rfl
theorem wd_190 : Cond.fieldLink "TreeCoverForge$Code" 39 "TreeCoverForge$Code" "holders" "[I" ∈ zz_tbl := zz_in (i := 190) (by decide +kernel) rfl
theorem wd_191 : Cond.fieldLink "TreeCoverForge$Code" 42 "TreeCoverForge$Code" "kinds" "[I" ∈ zz_tbl := zz_in (i := 191) (by decide +kernel) rfl
theorem wd_192 : Cond.fieldLink "TreeCoverForge$Code" 45 "TreeCoverForge$Code" "latest" "[I" ∈ zz_tbl := zz_in (i := 192) (by decide +kernel) rfl
theorem wd_193 : Cond.fieldLink "TreeCoverForge$Code" 48 "TreeCoverForge$Code" "path" "[I" ∈ zz_tbl := zz_in (i := 193) (by decide +kernel) rfl
theorem wd_194 : Cond.fieldLink "TreeCoverForge$Code" 51 "TreeCoverForge$Code" "count" "I" ∈ zz_tbl := zz_in (i := 194) (by decide +kernel) rfl
theorem wd_195 : Cond.fieldLink "TreeCoverForge" 134 "TreeCoverForge$Code" "count" "I" ∈ zz_tbl := zz_in (i := 195) (by decide +kernel) rfl
theorem wd_196 : Cond.fieldLink "TreeCoverForge$Code" 103 "TreeCoverForge$Code" "slotCount" "I" ∈ zz_tbl := zz_in (i := 196) (by decide +kernel) rfl
theorem wd_197 : Cond.fieldLink "TreeCoverForge" 139 "TreeCoverForge$Code" "slotCount" "I" ∈ zz_tbl := zz_in (i := 197) (by decide +kernel) rfl
theorem wd_229 : Cond.fieldLink "TreeCoverForge" 12 "TreeCoverForge" "book" "LTreeCoverForge$RuleBook;" ∈ zz_tbl := zz_in (i := 229) (by decide +kernel) rfl
theorem wd_230 : Cond.fieldLink "TreeCoverForge" 19 "TreeCoverForge" "pile" "LTreeCoverForge$Pile;" ∈ zz_tbl := zz_in (i := 230) (by decide +kernel) rfl
theorem wd_231 : Cond.fieldLink "TreeCoverForge" 26 "TreeCoverForge" "table" "LTreeCoverForge$StateTable;" ∈ zz_tbl := zz_in (i := 231) (by decide +kernel) rfl
theorem wd_232 : Cond.fieldLink "TreeCoverForge" 33 "TreeCoverForge" "code" "LTreeCoverForge$Code;" ∈ zz_tbl := zz_in (i := 232) (by decide +kernel) rfl
theorem wd_233 : Cond.fieldLink "TreeCoverForge" 37 "TreeCoverForge" "variables" "[I" ∈ zz_tbl := zz_in (i := 233) (by decide +kernel) rfl
theorem wd_234 : Cond.fieldLink "TreeCoverForge" 41 "TreeCoverForge" "registerCount" "I" ∈ zz_tbl := zz_in (i := 234) (by decide +kernel) rfl
theorem wd_248 : Cond.methodLink "TreeCoverForgeLaw" 13 y_Forge_rule ∈ zz_tbl := zz_in (i := 248) (by decide +kernel) rfl
theorem wd_252 : Cond.methodLink "TreeCoverForge" 45 y_Forge_isKind ∈ zz_tbl := zz_in (i := 252) (by decide +kernel) rfl
theorem wd_255 : Cond.methodLink "TreeCoverForge" 49 y_Forge_fitsOperator ∈ zz_tbl := zz_in (i := 255) (by decide +kernel) rfl
theorem wd_258 : Cond.fieldLink "TreeCoverForge" 83 "TreeCoverForge" "ARITIES" "[I" ∈ zz_tbl := zz_in (i := 258) (by decide +kernel) rfl
theorem wd_260 : Cond.methodLink "TreeCoverForge" 53 y_Forge_isCostFor ∈ zz_tbl := zz_in (i := 260) (by decide +kernel) rfl
theorem wd_263 : Cond.methodLink "TreeCoverForge" 60 y_Forge_forgetConclusions ∈ zz_tbl := zz_in (i := 263) (by decide +kernel) rfl
theorem wd_267 : Cond.methodLink "TreeCoverForge" 63 y_Book_add ∈ zz_tbl := zz_in (i := 267) (by decide +kernel) rfl
theorem wd_271 : Cond.methodLink "TreeCoverForgeLaw" 18 y_Forge_clear ∈ zz_tbl := zz_in (i := 271) (by decide +kernel) rfl
theorem wd_275 : Cond.methodLink "TreeCoverForge" 67 y_Book_removeAll ∈ zz_tbl := zz_in (i := 275) (by decide +kernel) rfl
theorem wd_279 : Cond.methodLink "TreeCoverForge$RuleBook" 39 y_Arrays_fillI ∈ zz_tbl := zz_in (i := 279) (by decide +kernel) rfl
theorem wd_282 : Cond.methodLink "TreeCoverForgeLaw" 22 y_Forge_states ∈ zz_tbl := zz_in (i := 282) (by decide +kernel) rfl
theorem wd_286 : Cond.methodLink "TreeCoverForge" 73 y_Table_findAll ∈ zz_tbl := zz_in (i := 286) (by decide +kernel) rfl
theorem wd_290 : Cond.methodLink "TreeCoverForge$StateTable" 29 y_Table_look ∈ zz_tbl := zz_in (i := 290) (by decide +kernel) rfl
theorem wd_294 : Cond.methodLink "TreeCoverForge$StateTable" 37 y_Label_derive ∈ zz_tbl := zz_in (i := 294) (by decide +kernel) rfl
theorem wd_298 : Cond.constantLong "TreeCoverForge$Label" 19 (-1) ∈ zz_tbl := zz_in (i := 298) (by decide +kernel) rfl
theorem wd_299 : Cond.methodLink "TreeCoverForge$Label" 21 y_Arrays_fillJ ∈ zz_tbl := zz_in (i := 299) (by decide +kernel) rfl
theorem wd_302 : Cond.methodLink "TreeCoverForge$Label" 27 y_Arrays_fillI ∈ zz_tbl := zz_in (i := 302) (by decide +kernel) rfl
theorem wd_303 : Cond.methodLink "TreeCoverForge$Label" 45 y_Label_isCovered ∈ zz_tbl := zz_in (i := 303) (by decide +kernel) rfl
theorem wd_307 : Cond.methodLink "TreeCoverForge$Label" 49 y_Label_offer ∈ zz_tbl := zz_in (i := 307) (by decide +kernel) rfl
theorem wd_311 : Cond.methodLink "TreeCoverForge$Label" 53 y_Label_applyChains ∈ zz_tbl := zz_in (i := 311) (by decide +kernel) rfl
theorem wd_315 : Cond.methodLink "TreeCoverForge$StateTable" 40 y_Label_makeRelative ∈ zz_tbl := zz_in (i := 315) (by decide +kernel) rfl
theorem wd_319 : Cond.methodLink "TreeCoverForge$Label" 62 y_Label_leastCost ∈ zz_tbl := zz_in (i := 319) (by decide +kernel) rfl
theorem wd_323 : Cond.methodLink "TreeCoverForge$StateTable" 43 y_Label_agreesWith ∈ zz_tbl := zz_in (i := 323) (by decide +kernel) rfl
theorem wd_327 : Cond.methodLink "TreeCoverForge$StateTable" 33 y_Table_lookAtPair ∈ zz_tbl := zz_in (i := 327) (by decide +kernel) rfl
theorem wd_331 : Cond.methodLink "TreeCoverForgeLaw" 27 y_Forge_push ∈ zz_tbl := zz_in (i := 331) (by decide +kernel) rfl
theorem wd_335 : Cond.methodLink "TreeCoverForge" 77 y_Forge_isNumberFor ∈ zz_tbl := zz_in (i := 335) (by decide +kernel) rfl
theorem wd_338 : Cond.methodLink "TreeCoverForge" 142 y_Forge_isVariable ∈ zz_tbl := zz_in (i := 338) (by decide +kernel) rfl
theorem wd_341 : Cond.methodLink "TreeCoverForge" 89 y_Pile_heightOfNew ∈ zz_tbl := zz_in (i := 341) (by decide +kernel) rfl
theorem wd_345 : Cond.fieldLinkNest "TreeCoverForge$Pile" 49 "TreeCoverForge" "ARITIES" "[I" "TreeCoverForge" ∈ lw_tbl := List.mem_of_getElem? (i := 345) (by decide +kernel)
theorem wd_346 : Cond.methodLink "TreeCoverForge$Pile" 52 y_Pile_firstKid ∈ zz_tbl := zz_in (i := 346) (by decide +kernel) rfl
theorem wd_350 : Cond.methodLink "TreeCoverForge$Pile" 56 y_Math_max ∈ zz_tbl := zz_in (i := 350) (by decide +kernel) rfl
theorem wd_353 : Cond.methodLink "TreeCoverForge" 93 y_Pile_add ∈ zz_tbl := zz_in (i := 353) (by decide +kernel) rfl
theorem wd_357 : Cond.methodLink "TreeCoverForge$Pile" 61 y_Pile_heightOfNew ∈ zz_tbl := zz_in (i := 357) (by decide +kernel) rfl
theorem wd_358 : Cond.methodLink "TreeCoverForgeLaw" 32 y_Forge_pop ∈ zz_tbl := zz_in (i := 358) (by decide +kernel) rfl
theorem wd_362 : Cond.methodLink "TreeCoverForge" 96 y_Pile_removeTop ∈ zz_tbl := zz_in (i := 362) (by decide +kernel) rfl
theorem wd_366 : Cond.methodLink "TreeCoverForge$Pile" 45 y_Pile_topSize ∈ zz_tbl := zz_in (i := 366) (by decide +kernel) rfl
theorem wd_370 : Cond.methodLink "TreeCoverForge$Pile" 68 y_Math_min ∈ zz_tbl := zz_in (i := 370) (by decide +kernel) rfl
theorem wd_373 : Cond.methodLink "TreeCoverForgeLaw" 37 y_Forge_trees ∈ zz_tbl := zz_in (i := 373) (by decide +kernel) rfl
theorem wd_377 : Cond.methodLink "TreeCoverForgeLaw" 41 y_Forge_nodes ∈ zz_tbl := zz_in (i := 377) (by decide +kernel) rfl
theorem wd_381 : Cond.methodLink "TreeCoverForge" 99 y_Pile_topSize ∈ zz_tbl := zz_in (i := 381) (by decide +kernel) rfl
theorem wd_382 : Cond.methodLink "TreeCoverForgeLaw" 45 y_Forge_relative ∈ zz_tbl := zz_in (i := 382) (by decide +kernel) rfl
theorem wd_386 : Cond.methodLink "TreeCoverForge" 103 y_Forge_isTopNode ∈ zz_tbl := zz_in (i := 386) (by decide +kernel) rfl
theorem wd_390 : Cond.methodLink "TreeCoverForge" 106 y_Pile_labelOf ∈ zz_tbl := zz_in (i := 390) (by decide +kernel) rfl
theorem wd_394 : Cond.methodLink "TreeCoverForge$Pile" 71 y_Label_derive ∈ zz_tbl := zz_in (i := 394) (by decide +kernel) rfl
theorem wd_395 : Cond.methodLink "TreeCoverForge$Pile" 75 y_Pile_topStart ∈ zz_tbl := zz_in (i := 395) (by decide +kernel) rfl
theorem wd_399 : Cond.methodLink "TreeCoverForge" 110 y_Label_isCovered ∈ zz_tbl := zz_in (i := 399) (by decide +kernel) rfl
theorem wd_400 : Cond.methodLink "TreeCoverForge" 119 y_Label_leastCost ∈ zz_tbl := zz_in (i := 400) (by decide +kernel) rfl
theorem wd_401 : Cond.methodLink "TreeCoverForgeLaw" 49 y_Forge_choice ∈ zz_tbl := zz_in (i := 401) (by decide +kernel) rfl
theorem wd_405 : Cond.methodLink "TreeCoverForgeLaw" 53 y_Forge_cost ∈ zz_tbl := zz_in (i := 405) (by decide +kernel) rfl
theorem wd_409 : Cond.methodLink "TreeCoverForgeLaw" 58 y_Forge_registers ∈ zz_tbl := zz_in (i := 409) (by decide +kernel) rfl
theorem wd_413 : Cond.methodLink "TreeCoverForgeLaw" 63 y_Forge_cover ∈ zz_tbl := zz_in (i := 413) (by decide +kernel) rfl
theorem wd_417 : Cond.methodLink "TreeCoverForge" 126 y_Code_write ∈ zz_tbl := zz_in (i := 417) (by decide +kernel) rfl
theorem wd_421 : Cond.methodLink "TreeCoverForge$Code" 55 y_Code_chooseKinds ∈ zz_tbl := zz_in (i := 421) (by decide +kernel) rfl
theorem wd_425 : Cond.methodLink "TreeCoverForge$Code" 59 y_Pile_topStart ∈ zz_tbl := zz_in (i := 425) (by decide +kernel) rfl
theorem wd_426 : Cond.methodLink "TreeCoverForge$Code" 68 y_Code_followChoices ∈ zz_tbl := zz_in (i := 426) (by decide +kernel) rfl
theorem wd_430 : Cond.fieldLinkNest "TreeCoverForge$Code" 81 "TreeCoverForge" "ARITIES" "[I" "TreeCoverForge" ∈ lw_tbl := List.mem_of_getElem? (i := 430) (by decide +kernel)
theorem wd_431 : Cond.methodLink "TreeCoverForge$Code" 84 y_Pile_firstKid ∈ zz_tbl := zz_in (i := 431) (by decide +kernel) rfl
theorem wd_432 : Cond.methodLink "TreeCoverForge$Code" 72 y_Code_writeOperator ∈ zz_tbl := zz_in (i := 432) (by decide +kernel) rfl
theorem wd_436 : Cond.methodLink "TreeCoverForge$Code" 76 y_Code_append ∈ zz_tbl := zz_in (i := 436) (by decide +kernel) rfl
theorem wd_440 : Cond.methodLink "TreeCoverForge" 130 y_Code_givePlaces ∈ zz_tbl := zz_in (i := 440) (by decide +kernel) rfl
theorem wd_444 : Cond.methodLink "TreeCoverForge$Code" 106 y_Arrays_fillI ∈ zz_tbl := zz_in (i := 444) (by decide +kernel) rfl
theorem wd_445 : Cond.methodLink "TreeCoverForge$Code" 112 y_Code_releaseUntil ∈ zz_tbl := zz_in (i := 445) (by decide +kernel) rfl
theorem wd_449 : Cond.methodLink "TreeCoverForge$Code" 116 y_Code_leastFree ∈ zz_tbl := zz_in (i := 449) (by decide +kernel) rfl
theorem wd_453 : Cond.methodLink "TreeCoverForge$Code" 120 y_Code_spillFor ∈ zz_tbl := zz_in (i := 453) (by decide +kernel) rfl
theorem wd_457 : Cond.methodLink "TreeCoverForge$Code" 123 y_Code_isNeededLonger ∈ zz_tbl := zz_in (i := 457) (by decide +kernel) rfl
theorem wd_461 : Cond.methodLink "TreeCoverForgeLaw" 67 y_Forge_instruction ∈ zz_tbl := zz_in (i := 461) (by decide +kernel) rfl
theorem wd_465 : Cond.methodLink "TreeCoverForge" 135 y_Code_tell ∈ zz_tbl := zz_in (i := 465) (by decide +kernel) rfl
theorem wd_469 : Cond.methodLink "TreeCoverForge$Code" 127 y_Code_placeOf ∈ zz_tbl := zz_in (i := 469) (by decide +kernel) rfl
theorem wd_473 : Cond.methodLink "TreeCoverForgeLaw" 71 y_Forge_slots ∈ zz_tbl := zz_in (i := 473) (by decide +kernel) rfl
theorem wd_477 : Cond.methodLink "TreeCoverForgeLaw" 75 y_Forge_set ∈ zz_tbl := zz_in (i := 477) (by decide +kernel) rfl
theorem wd_481 : Cond.methodLink "TreeCoverForgeLaw" 80 y_Forge_run ∈ zz_tbl := zz_in (i := 481) (by decide +kernel) rfl
theorem wd_485 : Cond.methodLink "TreeCoverForge" 145 y_Code_execute ∈ zz_tbl := zz_in (i := 485) (by decide +kernel) rfl
theorem wd_489 : Cond.methodLinkNest "TreeCoverForge$Code" 130 y_Forge_resultOf "TreeCoverForge" ∈ lw_tbl := List.mem_of_getElem? (i := 489) (by decide +kernel)
theorem wd_492 : Cond.methodLink "TreeCoverForgeLaw" 84 y_Forge_value ∈ zz_tbl := zz_in (i := 492) (by decide +kernel) rfl
theorem wd_496 : Cond.methodLink "TreeCoverForge" 149 y_Pile_evaluateTop ∈ zz_tbl := zz_in (i := 496) (by decide +kernel) rfl
theorem wd_500 : Cond.methodLinkNest "TreeCoverForge$Pile" 78 y_Forge_resultOf "TreeCoverForge" ∈ lw_tbl := List.mem_of_getElem? (i := 500) (by decide +kernel)
theorem wd_503 : Cond.methodLink "TreeCoverForgeLaw" 12 y_Model_init ∈ zz_tbl := zz_in (i := 503) (by decide +kernel) rfl
theorem wd_506 : Cond.methodLink "TreeCoverForgeModel" 1 y_Object_init ∈ zz_tbl := zz_in (i := 506) (by decide +kernel) rfl
theorem wd_507 : Cond.fieldLink "TreeCoverForgeModel" 115 "TreeCoverForgeModel" "rules" "I" ∈ zz_tbl := zz_in (i := 507) (by decide +kernel) rfl
theorem wd_508 : Cond.fieldLink "TreeCoverForgeModel" 7 "TreeCoverForgeModel" "makes" "[I" ∈ zz_tbl := zz_in (i := 508) (by decide +kernel) rfl
theorem wd_509 : Cond.fieldLink "TreeCoverForgeModel" 13 "TreeCoverForgeModel" "operator" "[I" ∈ zz_tbl := zz_in (i := 509) (by decide +kernel) rfl
theorem wd_510 : Cond.fieldLink "TreeCoverForgeModel" 16 "TreeCoverForgeModel" "first" "[I" ∈ zz_tbl := zz_in (i := 510) (by decide +kernel) rfl
theorem wd_511 : Cond.fieldLink "TreeCoverForgeModel" 19 "TreeCoverForgeModel" "second" "[I" ∈ zz_tbl := zz_in (i := 511) (by decide +kernel) rfl
theorem wd_512 : Cond.fieldLink "TreeCoverForgeModel" 22 "TreeCoverForgeModel" "price" "[I" ∈ zz_tbl := zz_in (i := 512) (by decide +kernel) rfl
theorem wd_513 : Cond.fieldLink "TreeCoverForgeModel" 131 "TreeCoverForgeModel" "total" "I" ∈ zz_tbl := zz_in (i := 513) (by decide +kernel) rfl
theorem wd_514 : Cond.fieldLink "TreeCoverForgeModel" 25 "TreeCoverForgeModel" "op" "[I" ∈ zz_tbl := zz_in (i := 514) (by decide +kernel) rfl
theorem wd_515 : Cond.fieldLink "TreeCoverForgeModel" 28 "TreeCoverForgeModel" "number" "[I" ∈ zz_tbl := zz_in (i := 515) (by decide +kernel) rfl
theorem wd_516 : Cond.fieldLink "TreeCoverForgeModel" 31 "TreeCoverForgeModel" "size" "[I" ∈ zz_tbl := zz_in (i := 516) (by decide +kernel) rfl
theorem wd_517 : Cond.fieldLink "TreeCoverForgeModel" 34 "TreeCoverForgeModel" "height" "[I" ∈ zz_tbl := zz_in (i := 517) (by decide +kernel) rfl
theorem wd_518 : Cond.fieldLink "TreeCoverForgeModel" 128 "TreeCoverForgeModel" "many" "I" ∈ zz_tbl := zz_in (i := 518) (by decide +kernel) rfl
theorem wd_519 : Cond.fieldLink "TreeCoverForgeModel" 37 "TreeCoverForgeModel" "start" "[I" ∈ zz_tbl := zz_in (i := 519) (by decide +kernel) rfl
theorem wd_520 : Cond.fieldLink "TreeCoverForgeModel" 40 "TreeCoverForgeModel" "least" "[J" ∈ zz_tbl := zz_in (i := 520) (by decide +kernel) rfl
theorem wd_521 : Cond.fieldLink "TreeCoverForgeModel" 44 "TreeCoverForgeModel" "chosen" "[I" ∈ zz_tbl := zz_in (i := 521) (by decide +kernel) rfl
theorem wd_522 : Cond.fieldLink "TreeCoverForgeModel" 47 "TreeCoverForgeModel" "left" "[J" ∈ zz_tbl := zz_in (i := 522) (by decide +kernel) rfl
theorem wd_523 : Cond.fieldLink "TreeCoverForgeModel" 50 "TreeCoverForgeModel" "right" "[J" ∈ zz_tbl := zz_in (i := 523) (by decide +kernel) rfl
theorem wd_524 : Cond.fieldLink "TreeCoverForgeModel" 53 "TreeCoverForgeModel" "got" "[J" ∈ zz_tbl := zz_in (i := 524) (by decide +kernel) rfl
theorem wd_525 : Cond.fieldLink "TreeCoverForgeModel" 56 "TreeCoverForgeModel" "pick" "[I" ∈ zz_tbl := zz_in (i := 525) (by decide +kernel) rfl
theorem wd_526 : Cond.fieldLink "TreeCoverForgeModel" 145 "TreeCoverForgeModel" "stateCount" "I" ∈ zz_tbl := zz_in (i := 526) (by decide +kernel) rfl
theorem wd_527 : Cond.fieldLink "TreeCoverForgeModel" 59 "TreeCoverForgeModel" "stateCost" "[J" ∈ zz_tbl := zz_in (i := 527) (by decide +kernel) rfl
theorem wd_528 : Cond.fieldLink "TreeCoverForgeModel" 62 "TreeCoverForgeModel" "statePick" "[I" ∈ zz_tbl := zz_in (i := 528) (by decide +kernel) rfl
theorem wd_529 : Cond.fieldLink "TreeCoverForgeModel" 166 "TreeCoverForgeModel" "length" "I" ∈ zz_tbl := zz_in (i := 529) (by decide +kernel) rfl
theorem wd_530 : Cond.fieldLink "TreeCoverForgeModel" 176 "TreeCoverForgeModel" "slotCount" "I" ∈ zz_tbl := zz_in (i := 530) (by decide +kernel) rfl
theorem wd_531 : Cond.fieldLink "TreeCoverForgeModel" 65 "TreeCoverForgeModel" "registers" "I" ∈ zz_tbl := zz_in (i := 531) (by decide +kernel) rfl
theorem wd_532 : Cond.fieldLink "TreeCoverForgeModel" 69 "TreeCoverForgeModel" "codeRule" "[I" ∈ zz_tbl := zz_in (i := 532) (by decide +kernel) rfl
theorem wd_533 : Cond.fieldLink "TreeCoverForgeModel" 72 "TreeCoverForgeModel" "codeNode" "[I" ∈ zz_tbl := zz_in (i := 533) (by decide +kernel) rfl
theorem wd_534 : Cond.fieldLink "TreeCoverForgeModel" 75 "TreeCoverForgeModel" "codeOp" "[I" ∈ zz_tbl := zz_in (i := 534) (by decide +kernel) rfl
theorem wd_535 : Cond.fieldLink "TreeCoverForgeModel" 78 "TreeCoverForgeModel" "codeNumber" "[I" ∈ zz_tbl := zz_in (i := 535) (by decide +kernel) rfl
theorem wd_536 : Cond.fieldLink "TreeCoverForgeModel" 81 "TreeCoverForgeModel" "sourceA" "[I" ∈ zz_tbl := zz_in (i := 536) (by decide +kernel) rfl
theorem wd_537 : Cond.fieldLink "TreeCoverForgeModel" 84 "TreeCoverForgeModel" "sourceB" "[I" ∈ zz_tbl := zz_in (i := 537) (by decide +kernel) rfl
theorem wd_538 : Cond.fieldLink "TreeCoverForgeModel" 87 "TreeCoverForgeModel" "until" "[I" ∈ zz_tbl := zz_in (i := 538) (by decide +kernel) rfl
theorem wd_539 : Cond.fieldLink "TreeCoverForgeModel" 90 "TreeCoverForgeModel" "place" "[I" ∈ zz_tbl := zz_in (i := 539) (by decide +kernel) rfl
theorem wd_540 : Cond.fieldLink "TreeCoverForgeModel" 93 "TreeCoverForgeModel" "result" "[I" ∈ zz_tbl := zz_in (i := 540) (by decide +kernel) rfl
theorem wd_541 : Cond.fieldLink "TreeCoverForgeModel" 96 "TreeCoverForgeModel" "wanted" "[I" ∈ zz_tbl := zz_in (i := 541) (by decide +kernel) rfl
theorem wd_542 : Cond.fieldLink "TreeCoverForgeModel" 99 "TreeCoverForgeModel" "latest" "[I" ∈ zz_tbl := zz_in (i := 542) (by decide +kernel) rfl
theorem wd_543 : Cond.fieldLink "TreeCoverForgeModel" 102 "TreeCoverForgeModel" "chain" "[I" ∈ zz_tbl := zz_in (i := 543) (by decide +kernel) rfl
theorem wd_544 : Cond.fieldLink "TreeCoverForgeModel" 105 "TreeCoverForgeModel" "variables" "[I" ∈ zz_tbl := zz_in (i := 544) (by decide +kernel) rfl
theorem wd_545 : Cond.fieldLink "TreeCoverForgeModel" 108 "TreeCoverForgeModel" "values" "[I" ∈ zz_tbl := zz_in (i := 545) (by decide +kernel) rfl
theorem wd_625 : Cond.methodLink "TreeCoverForgeLaw" 17 y_Model_rule ∈ zz_tbl := zz_in (i := 625) (by decide +kernel) rfl
theorem wd_629 : Cond.methodLink "TreeCoverForgeModel" 111 y_Model_outside ∈ zz_tbl := zz_in (i := 629) (by decide +kernel) rfl
theorem wd_632 : Cond.methodLink "TreeCoverForgeLaw" 21 y_Model_clear ∈ zz_tbl := zz_in (i := 632) (by decide +kernel) rfl
theorem wd_636 : Cond.methodLink "TreeCoverForgeLaw" 26 y_Model_states ∈ zz_tbl := zz_in (i := 636) (by decide +kernel) rfl
theorem wd_640 : Cond.methodLink "TreeCoverForgeModel" 138 y_Model_combine ∈ zz_tbl := zz_in (i := 640) (by decide +kernel) rfl
theorem wd_644 : Cond.constantLong "TreeCoverForgeModel" 118 1125899906842624 ∈ zz_tbl := zz_in (i := 644) (by decide +kernel) rfl
theorem wd_645 : Cond.methodLink "TreeCoverForgeModel" 124 y_Model_through ∈ zz_tbl := zz_in (i := 645) (by decide +kernel) rfl
theorem wd_649 : Cond.methodLink "TreeCoverForgeModel" 120 y_Model_kids ∈ zz_tbl := zz_in (i := 649) (by decide +kernel) rfl
theorem wd_652 : Cond.methodLink "TreeCoverForgeModel" 148 y_Model_known ∈ zz_tbl := zz_in (i := 652) (by decide +kernel) rfl
theorem wd_656 : Cond.methodLink "TreeCoverForgeModel" 141 y_Model_lowest ∈ zz_tbl := zz_in (i := 656) (by decide +kernel) rfl
theorem wd_660 : Cond.methodLink "TreeCoverForgeModel" 152 y_Model_reach ∈ zz_tbl := zz_in (i := 660) (by decide +kernel) rfl
theorem wd_664 : Cond.methodLink "TreeCoverForgeLaw" 31 y_Model_push ∈ zz_tbl := zz_in (i := 664) (by decide +kernel) rfl
theorem wd_668 : Cond.methodLink "TreeCoverForgeLaw" 36 y_Model_pop ∈ zz_tbl := zz_in (i := 668) (by decide +kernel) rfl
theorem wd_672 : Cond.methodLink "TreeCoverForgeLaw" 40 y_Model_trees ∈ zz_tbl := zz_in (i := 672) (by decide +kernel) rfl
theorem wd_676 : Cond.methodLink "TreeCoverForgeLaw" 44 y_Model_nodes ∈ zz_tbl := zz_in (i := 676) (by decide +kernel) rfl
theorem wd_680 : Cond.methodLink "TreeCoverForgeLaw" 48 y_Model_relative ∈ zz_tbl := zz_in (i := 680) (by decide +kernel) rfl
theorem wd_684 : Cond.methodLink "TreeCoverForgeModel" 163 y_Model_noNode ∈ zz_tbl := zz_in (i := 684) (by decide +kernel) rfl
theorem wd_688 : Cond.methodLink "TreeCoverForgeModel" 156 y_Model_nodes ∈ zz_tbl := zz_in (i := 688) (by decide +kernel) rfl
theorem wd_689 : Cond.methodLink "TreeCoverForgeModel" 160 y_Model_work ∈ zz_tbl := zz_in (i := 689) (by decide +kernel) rfl
theorem wd_693 : Cond.methodLink "TreeCoverForgeModel" 134 y_Model_takeKids ∈ zz_tbl := zz_in (i := 693) (by decide +kernel) rfl
theorem wd_697 : Cond.methodLink "TreeCoverForgeLaw" 52 y_Model_choice ∈ zz_tbl := zz_in (i := 697) (by decide +kernel) rfl
theorem wd_701 : Cond.methodLink "TreeCoverForgeLaw" 57 y_Model_cost ∈ zz_tbl := zz_in (i := 701) (by decide +kernel) rfl
theorem wd_705 : Cond.methodLink "TreeCoverForgeLaw" 62 y_Model_registers ∈ zz_tbl := zz_in (i := 705) (by decide +kernel) rfl
theorem wd_709 : Cond.methodLink "TreeCoverForgeLaw" 66 y_Model_cover ∈ zz_tbl := zz_in (i := 709) (by decide +kernel) rfl
theorem wd_713 : Cond.methodLink "TreeCoverForgeModel" 179 y_Model_want ∈ zz_tbl := zz_in (i := 713) (by decide +kernel) rfl
theorem wd_717 : Cond.methodLink "TreeCoverForgeModel" 182 y_Model_emit ∈ zz_tbl := zz_in (i := 717) (by decide +kernel) rfl
theorem wd_721 : Cond.methodLink "TreeCoverForgeModel" 169 y_Model_write ∈ zz_tbl := zz_in (i := 721) (by decide +kernel) rfl
theorem wd_725 : Cond.methodLink "TreeCoverForgeModel" 186 y_Model_settle ∈ zz_tbl := zz_in (i := 725) (by decide +kernel) rfl
theorem wd_729 : Cond.methodLink "TreeCoverForgeModel" 173 y_Model_holds ∈ zz_tbl := zz_in (i := 729) (by decide +kernel) rfl
theorem wd_733 : Cond.methodLink "TreeCoverForgeLaw" 70 y_Model_instruction ∈ zz_tbl := zz_in (i := 733) (by decide +kernel) rfl
theorem wd_737 : Cond.methodLink "TreeCoverForgeLaw" 74 y_Model_slots ∈ zz_tbl := zz_in (i := 737) (by decide +kernel) rfl
theorem wd_741 : Cond.methodLink "TreeCoverForgeLaw" 79 y_Model_set ∈ zz_tbl := zz_in (i := 741) (by decide +kernel) rfl
theorem wd_745 : Cond.methodLink "TreeCoverForgeLaw" 83 y_Model_run ∈ zz_tbl := zz_in (i := 745) (by decide +kernel) rfl
theorem wd_749 : Cond.methodLink "TreeCoverForgeModel" 189 y_Model_calculate ∈ zz_tbl := zz_in (i := 749) (by decide +kernel) rfl
theorem wd_753 : Cond.methodLink "TreeCoverForgeLaw" 87 y_Model_value ∈ zz_tbl := zz_in (i := 753) (by decide +kernel) rfl
theorem k_Forge_rule : zz_Y1 y_Forge_rule b_Forge_rule 6 (some .int) 5 := ⟨zz_in (i := 251) (by decide +kernel) rfl, zz_in (i := 30) (by decide +kernel) rfl, zz_in (i := 249) (by decide +kernel) rfl, zz_in (i := 250) (by decide +kernel) rfl, ⟨by decide, by decide, by decide +kernel⟩⟩
theorem k_Forge_isKind : zz_Y0 y_Forge_isKind b_Forge_isKind 1 (some .boolean) 1 := ⟨zz_in (i := 254) (by decide +kernel) rfl, zz_in (i := 30) (by decide +kernel) rfl, zz_in (i := 253) (by decide +kernel) rfl, ⟨by decide, by decide, by decide +kernel⟩⟩
theorem k_Forge_fitsOperator : zz_Y0 y_Forge_fitsOperator b_Forge_fitsOperator 4 (some .boolean) 4 := ⟨zz_in (i := 257) (by decide +kernel) rfl, zz_in (i := 30) (by decide +kernel) rfl, zz_in (i := 256) (by decide +kernel) rfl, ⟨by decide, by decide, by decide +kernel⟩⟩
theorem k_Forge_isCostFor : zz_Y0 y_Forge_isCostFor b_Forge_isCostFor 2 (some .boolean) 2 := ⟨zz_in (i := 262) (by decide +kernel) rfl, zz_in (i := 30) (by decide +kernel) rfl, zz_in (i := 261) (by decide +kernel) rfl, ⟨by decide, by decide, by decide +kernel⟩⟩
theorem k_Forge_forgetConclusions : zz_Y1 y_Forge_forgetConclusions b_Forge_forgetConclusions 1 none 0 := ⟨zz_in (i := 266) (by decide +kernel) rfl, zz_in (i := 30) (by decide +kernel) rfl, zz_in (i := 265) (by decide +kernel) rfl, zz_in (i := 0) (by decide +kernel) rfl, ⟨by decide, by decide, by decide +kernel⟩⟩
theorem k_Book_add : zz_Y1 y_Book_add b_Book_add 7 (some .int) 5 := ⟨zz_in (i := 270) (by decide +kernel) rfl, zz_in (i := 31) (by decide +kernel) rfl, zz_in (i := 268) (by decide +kernel) rfl, zz_in (i := 269) (by decide +kernel) rfl, ⟨by decide, by decide, by decide +kernel⟩⟩
theorem k_Forge_clear : zz_Y1 y_Forge_clear b_Forge_clear 1 none 0 := ⟨zz_in (i := 274) (by decide +kernel) rfl, zz_in (i := 30) (by decide +kernel) rfl, zz_in (i := 272) (by decide +kernel) rfl, zz_in (i := 273) (by decide +kernel) rfl, ⟨by decide, by decide, by decide +kernel⟩⟩
theorem k_Book_removeAll : zz_Y1 y_Book_removeAll b_Book_removeAll 1 none 0 := ⟨zz_in (i := 278) (by decide +kernel) rfl, zz_in (i := 31) (by decide +kernel) rfl, zz_in (i := 276) (by decide +kernel) rfl, zz_in (i := 277) (by decide +kernel) rfl, ⟨by decide, by decide, by decide +kernel⟩⟩
theorem k_Arrays_fillI : zz_Y0 y_Arrays_fillI b_Arrays_fillI 4 none 2 := ⟨zz_in (i := 281) (by decide +kernel) rfl, zz_in (i := 37) (by decide +kernel) rfl, zz_in (i := 280) (by decide +kernel) rfl, ⟨by decide, by decide, by decide +kernel⟩⟩
theorem k_Forge_states : zz_Y1 y_Forge_states b_Forge_states 1 (some .int) 0 := ⟨zz_in (i := 285) (by decide +kernel) rfl, zz_in (i := 30) (by decide +kernel) rfl, zz_in (i := 283) (by decide +kernel) rfl, zz_in (i := 284) (by decide +kernel) rfl, ⟨by decide, by decide, by decide +kernel⟩⟩
theorem k_Table_findAll : zz_Y1 y_Table_findAll b_Table_findAll 4 none 1 := ⟨zz_in (i := 289) (by decide +kernel) rfl, zz_in (i := 34) (by decide +kernel) rfl, zz_in (i := 287) (by decide +kernel) rfl, zz_in (i := 288) (by decide +kernel) rfl, ⟨by decide, by decide, by decide +kernel⟩⟩
theorem k_Table_look : zz_Y1 y_Table_look b_Table_look 7 none 4 := ⟨zz_in (i := 293) (by decide +kernel) rfl, zz_in (i := 34) (by decide +kernel) rfl, zz_in (i := 292) (by decide +kernel) rfl, zz_in (i := 1) (by decide +kernel) rfl, ⟨by decide, by decide, by decide +kernel⟩⟩
theorem k_Label_derive : zz_Y1 y_Label_derive b_Label_derive 10 none 4 := ⟨zz_in (i := 297) (by decide +kernel) rfl, zz_in (i := 33) (by decide +kernel) rfl, zz_in (i := 295) (by decide +kernel) rfl, zz_in (i := 296) (by decide +kernel) rfl, ⟨by decide, by decide, by decide +kernel⟩⟩
theorem k_Arrays_fillJ : zz_Y0 y_Arrays_fillJ b_Arrays_fillJ 5 none 2 := ⟨zz_in (i := 301) (by decide +kernel) rfl, zz_in (i := 37) (by decide +kernel) rfl, zz_in (i := 300) (by decide +kernel) rfl, ⟨by decide, by decide, by decide +kernel⟩⟩
theorem k_Label_isCovered : zz_Y1 y_Label_isCovered b_Label_isCovered 2 (some .boolean) 1 := ⟨zz_in (i := 306) (by decide +kernel) rfl, zz_in (i := 33) (by decide +kernel) rfl, zz_in (i := 304) (by decide +kernel) rfl, zz_in (i := 305) (by decide +kernel) rfl, ⟨by decide, by decide, by decide +kernel⟩⟩
theorem k_Label_offer : zz_Y1 y_Label_offer b_Label_offer 9 (some .boolean) 3 := ⟨zz_in (i := 310) (by decide +kernel) rfl, zz_in (i := 33) (by decide +kernel) rfl, zz_in (i := 309) (by decide +kernel) rfl, zz_in (i := 2) (by decide +kernel) rfl, ⟨by decide, by decide, by decide +kernel⟩⟩
theorem k_Label_applyChains : zz_Y1 y_Label_applyChains b_Label_applyChains 8 none 1 := ⟨zz_in (i := 314) (by decide +kernel) rfl, zz_in (i := 33) (by decide +kernel) rfl, zz_in (i := 313) (by decide +kernel) rfl, zz_in (i := 3) (by decide +kernel) rfl, ⟨by decide, by decide, by decide +kernel⟩⟩
theorem k_Label_makeRelative : zz_Y1 y_Label_makeRelative b_Label_makeRelative 4 none 0 := ⟨zz_in (i := 318) (by decide +kernel) rfl, zz_in (i := 33) (by decide +kernel) rfl, zz_in (i := 316) (by decide +kernel) rfl, zz_in (i := 317) (by decide +kernel) rfl, ⟨by decide, by decide, by decide +kernel⟩⟩
theorem k_Label_leastCost : zz_Y1 y_Label_leastCost b_Label_leastCost 4 (some .long) 0 := ⟨zz_in (i := 322) (by decide +kernel) rfl, zz_in (i := 33) (by decide +kernel) rfl, zz_in (i := 320) (by decide +kernel) rfl, zz_in (i := 321) (by decide +kernel) rfl, ⟨by decide, by decide, by decide +kernel⟩⟩
theorem k_Label_agreesWith : zz_Y1 y_Label_agreesWith b_Label_agreesWith 3 (some .boolean) 1 := ⟨zz_in (i := 326) (by decide +kernel) rfl, zz_in (i := 33) (by decide +kernel) rfl, zz_in (i := 324) (by decide +kernel) rfl, zz_in (i := 325) (by decide +kernel) rfl, ⟨by decide, by decide, by decide +kernel⟩⟩
theorem k_Table_lookAtPair : zz_Y1 y_Table_lookAtPair b_Table_lookAtPair 5 none 3 := ⟨zz_in (i := 330) (by decide +kernel) rfl, zz_in (i := 34) (by decide +kernel) rfl, zz_in (i := 329) (by decide +kernel) rfl, zz_in (i := 4) (by decide +kernel) rfl, ⟨by decide, by decide, by decide +kernel⟩⟩
theorem k_Forge_push : zz_Y1 y_Forge_push b_Forge_push 3 (some .int) 2 := ⟨zz_in (i := 334) (by decide +kernel) rfl, zz_in (i := 30) (by decide +kernel) rfl, zz_in (i := 332) (by decide +kernel) rfl, zz_in (i := 333) (by decide +kernel) rfl, ⟨by decide, by decide, by decide +kernel⟩⟩
theorem k_Forge_isNumberFor : zz_Y0 y_Forge_isNumberFor b_Forge_isNumberFor 2 (some .boolean) 2 := ⟨zz_in (i := 337) (by decide +kernel) rfl, zz_in (i := 30) (by decide +kernel) rfl, zz_in (i := 336) (by decide +kernel) rfl, ⟨by decide, by decide, by decide +kernel⟩⟩
theorem k_Forge_isVariable : zz_Y0 y_Forge_isVariable b_Forge_isVariable 1 (some .boolean) 1 := ⟨zz_in (i := 340) (by decide +kernel) rfl, zz_in (i := 30) (by decide +kernel) rfl, zz_in (i := 339) (by decide +kernel) rfl, ⟨by decide, by decide, by decide +kernel⟩⟩
theorem k_Pile_heightOfNew : zz_Y1 y_Pile_heightOfNew b_Pile_heightOfNew 2 (some .int) 1 := ⟨zz_in (i := 344) (by decide +kernel) rfl, zz_in (i := 32) (by decide +kernel) rfl, zz_in (i := 342) (by decide +kernel) rfl, zz_in (i := 343) (by decide +kernel) rfl, ⟨by decide, by decide, by decide +kernel⟩⟩
theorem k_Pile_firstKid : zz_Y1 y_Pile_firstKid b_Pile_firstKid 3 (some .int) 2 := ⟨zz_in (i := 349) (by decide +kernel) rfl, zz_in (i := 32) (by decide +kernel) rfl, zz_in (i := 347) (by decide +kernel) rfl, zz_in (i := 348) (by decide +kernel) rfl, ⟨by decide, by decide, by decide +kernel⟩⟩
theorem k_Math_max : zz_Y0 y_Math_max b_Math_max 2 (some .int) 2 := ⟨zz_in (i := 352) (by decide +kernel) rfl, zz_in (i := 38) (by decide +kernel) rfl, zz_in (i := 351) (by decide +kernel) rfl, ⟨by decide, by decide, by decide +kernel⟩⟩
theorem k_Pile_add : zz_Y1 y_Pile_add b_Pile_add 5 none 2 := ⟨zz_in (i := 356) (by decide +kernel) rfl, zz_in (i := 32) (by decide +kernel) rfl, zz_in (i := 354) (by decide +kernel) rfl, zz_in (i := 355) (by decide +kernel) rfl, ⟨by decide, by decide, by decide +kernel⟩⟩
theorem k_Forge_pop : zz_Y1 y_Forge_pop b_Forge_pop 1 (some .boolean) 0 := ⟨zz_in (i := 361) (by decide +kernel) rfl, zz_in (i := 30) (by decide +kernel) rfl, zz_in (i := 359) (by decide +kernel) rfl, zz_in (i := 360) (by decide +kernel) rfl, ⟨by decide, by decide, by decide +kernel⟩⟩
theorem k_Pile_removeTop : zz_Y1 y_Pile_removeTop b_Pile_removeTop 1 none 0 := ⟨zz_in (i := 365) (by decide +kernel) rfl, zz_in (i := 32) (by decide +kernel) rfl, zz_in (i := 363) (by decide +kernel) rfl, zz_in (i := 364) (by decide +kernel) rfl, ⟨by decide, by decide, by decide +kernel⟩⟩
theorem k_Pile_topSize : zz_Y1 y_Pile_topSize b_Pile_topSize 1 (some .int) 0 := ⟨zz_in (i := 369) (by decide +kernel) rfl, zz_in (i := 32) (by decide +kernel) rfl, zz_in (i := 367) (by decide +kernel) rfl, zz_in (i := 368) (by decide +kernel) rfl, ⟨by decide, by decide, by decide +kernel⟩⟩
theorem k_Math_min : zz_Y0 y_Math_min b_Math_min 2 (some .int) 2 := ⟨zz_in (i := 372) (by decide +kernel) rfl, zz_in (i := 38) (by decide +kernel) rfl, zz_in (i := 371) (by decide +kernel) rfl, ⟨by decide, by decide, by decide +kernel⟩⟩
theorem k_Forge_trees : zz_Y1 y_Forge_trees b_Forge_trees 1 (some .int) 0 := ⟨zz_in (i := 376) (by decide +kernel) rfl, zz_in (i := 30) (by decide +kernel) rfl, zz_in (i := 374) (by decide +kernel) rfl, zz_in (i := 375) (by decide +kernel) rfl, ⟨by decide, by decide, by decide +kernel⟩⟩
theorem k_Forge_nodes : zz_Y1 y_Forge_nodes b_Forge_nodes 1 (some .int) 0 := ⟨zz_in (i := 380) (by decide +kernel) rfl, zz_in (i := 30) (by decide +kernel) rfl, zz_in (i := 378) (by decide +kernel) rfl, zz_in (i := 379) (by decide +kernel) rfl, ⟨by decide, by decide, by decide +kernel⟩⟩
theorem k_Forge_relative : zz_Y1 y_Forge_relative b_Forge_relative 4 (some .int) 2 := ⟨zz_in (i := 385) (by decide +kernel) rfl, zz_in (i := 30) (by decide +kernel) rfl, zz_in (i := 383) (by decide +kernel) rfl, zz_in (i := 384) (by decide +kernel) rfl, ⟨by decide, by decide, by decide +kernel⟩⟩
theorem k_Forge_isTopNode : zz_Y1 y_Forge_isTopNode b_Forge_isTopNode 2 (some .boolean) 1 := ⟨zz_in (i := 389) (by decide +kernel) rfl, zz_in (i := 30) (by decide +kernel) rfl, zz_in (i := 388) (by decide +kernel) rfl, zz_in (i := 5) (by decide +kernel) rfl, ⟨by decide, by decide, by decide +kernel⟩⟩
theorem k_Pile_labelOf : zz_Y1 y_Pile_labelOf b_Pile_labelOf 7 (some (.object "TreeCoverForge$Label")) 2 := ⟨zz_in (i := 393) (by decide +kernel) rfl, zz_in (i := 32) (by decide +kernel) rfl, zz_in (i := 391) (by decide +kernel) rfl, zz_in (i := 392) (by decide +kernel) rfl, ⟨by decide, by decide, by decide +kernel⟩⟩
theorem k_Pile_topStart : zz_Y1 y_Pile_topStart b_Pile_topStart 1 (some .int) 0 := ⟨zz_in (i := 398) (by decide +kernel) rfl, zz_in (i := 32) (by decide +kernel) rfl, zz_in (i := 396) (by decide +kernel) rfl, zz_in (i := 397) (by decide +kernel) rfl, ⟨by decide, by decide, by decide +kernel⟩⟩
theorem k_Forge_choice : zz_Y1 y_Forge_choice b_Forge_choice 3 (some .int) 2 := ⟨zz_in (i := 404) (by decide +kernel) rfl, zz_in (i := 30) (by decide +kernel) rfl, zz_in (i := 402) (by decide +kernel) rfl, zz_in (i := 403) (by decide +kernel) rfl, ⟨by decide, by decide, by decide +kernel⟩⟩
theorem k_Forge_cost : zz_Y1 y_Forge_cost b_Forge_cost 3 (some .int) 1 := ⟨zz_in (i := 408) (by decide +kernel) rfl, zz_in (i := 30) (by decide +kernel) rfl, zz_in (i := 406) (by decide +kernel) rfl, zz_in (i := 407) (by decide +kernel) rfl, ⟨by decide, by decide, by decide +kernel⟩⟩
theorem k_Forge_registers : zz_Y1 y_Forge_registers b_Forge_registers 2 (some .boolean) 1 := ⟨zz_in (i := 412) (by decide +kernel) rfl, zz_in (i := 30) (by decide +kernel) rfl, zz_in (i := 410) (by decide +kernel) rfl, zz_in (i := 411) (by decide +kernel) rfl, ⟨by decide, by decide, by decide +kernel⟩⟩
theorem k_Forge_cover : zz_Y1 y_Forge_cover b_Forge_cover 1 (some .int) 0 := ⟨zz_in (i := 416) (by decide +kernel) rfl, zz_in (i := 30) (by decide +kernel) rfl, zz_in (i := 414) (by decide +kernel) rfl, zz_in (i := 415) (by decide +kernel) rfl, ⟨by decide, by decide, by decide +kernel⟩⟩
theorem k_Code_write : zz_Y1 y_Code_write b_Code_write 6 none 2 := ⟨zz_in (i := 420) (by decide +kernel) rfl, zz_in (i := 35) (by decide +kernel) rfl, zz_in (i := 418) (by decide +kernel) rfl, zz_in (i := 419) (by decide +kernel) rfl, ⟨by decide, by decide, by decide +kernel⟩⟩
theorem k_Code_chooseKinds : zz_Y1 y_Code_chooseKinds b_Code_chooseKinds 6 none 2 := ⟨zz_in (i := 424) (by decide +kernel) rfl, zz_in (i := 35) (by decide +kernel) rfl, zz_in (i := 423) (by decide +kernel) rfl, zz_in (i := 6) (by decide +kernel) rfl, ⟨by decide, by decide, by decide +kernel⟩⟩
theorem k_Code_followChoices : zz_Y1 y_Code_followChoices b_Code_followChoices 8 (some .int) 3 := ⟨zz_in (i := 429) (by decide +kernel) rfl, zz_in (i := 35) (by decide +kernel) rfl, zz_in (i := 428) (by decide +kernel) rfl, zz_in (i := 7) (by decide +kernel) rfl, ⟨by decide, by decide, by decide +kernel⟩⟩
theorem k_Code_writeOperator : zz_Y1 y_Code_writeOperator b_Code_writeOperator 7 none 3 := ⟨zz_in (i := 435) (by decide +kernel) rfl, zz_in (i := 35) (by decide +kernel) rfl, zz_in (i := 434) (by decide +kernel) rfl, zz_in (i := 8) (by decide +kernel) rfl, ⟨by decide, by decide, by decide +kernel⟩⟩
theorem k_Code_append : zz_Y1 y_Code_append b_Code_append 7 none 6 := ⟨zz_in (i := 439) (by decide +kernel) rfl, zz_in (i := 35) (by decide +kernel) rfl, zz_in (i := 438) (by decide +kernel) rfl, zz_in (i := 9) (by decide +kernel) rfl, ⟨by decide, by decide, by decide +kernel⟩⟩
theorem k_Code_givePlaces : zz_Y1 y_Code_givePlaces b_Code_givePlaces 4 none 1 := ⟨zz_in (i := 443) (by decide +kernel) rfl, zz_in (i := 35) (by decide +kernel) rfl, zz_in (i := 441) (by decide +kernel) rfl, zz_in (i := 442) (by decide +kernel) rfl, ⟨by decide, by decide, by decide +kernel⟩⟩
theorem k_Code_releaseUntil : zz_Y1 y_Code_releaseUntil b_Code_releaseUntil 4 none 2 := ⟨zz_in (i := 448) (by decide +kernel) rfl, zz_in (i := 35) (by decide +kernel) rfl, zz_in (i := 447) (by decide +kernel) rfl, zz_in (i := 10) (by decide +kernel) rfl, ⟨by decide, by decide, by decide +kernel⟩⟩
theorem k_Code_leastFree : zz_Y1 y_Code_leastFree b_Code_leastFree 3 (some .int) 1 := ⟨zz_in (i := 452) (by decide +kernel) rfl, zz_in (i := 35) (by decide +kernel) rfl, zz_in (i := 451) (by decide +kernel) rfl, zz_in (i := 11) (by decide +kernel) rfl, ⟨by decide, by decide, by decide +kernel⟩⟩
theorem k_Code_spillFor : zz_Y1 y_Code_spillFor b_Code_spillFor 5 none 2 := ⟨zz_in (i := 456) (by decide +kernel) rfl, zz_in (i := 35) (by decide +kernel) rfl, zz_in (i := 455) (by decide +kernel) rfl, zz_in (i := 12) (by decide +kernel) rfl, ⟨by decide, by decide, by decide +kernel⟩⟩
theorem k_Code_isNeededLonger : zz_Y1 y_Code_isNeededLonger b_Code_isNeededLonger 3 (some .boolean) 2 := ⟨zz_in (i := 460) (by decide +kernel) rfl, zz_in (i := 35) (by decide +kernel) rfl, zz_in (i := 459) (by decide +kernel) rfl, zz_in (i := 13) (by decide +kernel) rfl, ⟨by decide, by decide, by decide +kernel⟩⟩
theorem k_Forge_instruction : zz_Y1 y_Forge_instruction b_Forge_instruction 3 (some .int) 2 := ⟨zz_in (i := 464) (by decide +kernel) rfl, zz_in (i := 30) (by decide +kernel) rfl, zz_in (i := 462) (by decide +kernel) rfl, zz_in (i := 463) (by decide +kernel) rfl, ⟨by decide, by decide, by decide +kernel⟩⟩
theorem k_Code_tell : zz_Y1 y_Code_tell b_Code_tell 3 (some .int) 2 := ⟨zz_in (i := 468) (by decide +kernel) rfl, zz_in (i := 35) (by decide +kernel) rfl, zz_in (i := 466) (by decide +kernel) rfl, zz_in (i := 467) (by decide +kernel) rfl, ⟨by decide, by decide, by decide +kernel⟩⟩
theorem k_Code_placeOf : zz_Y1 y_Code_placeOf b_Code_placeOf 2 (some .int) 1 := ⟨zz_in (i := 472) (by decide +kernel) rfl, zz_in (i := 35) (by decide +kernel) rfl, zz_in (i := 471) (by decide +kernel) rfl, zz_in (i := 14) (by decide +kernel) rfl, ⟨by decide, by decide, by decide +kernel⟩⟩
theorem k_Forge_slots : zz_Y1 y_Forge_slots b_Forge_slots 1 (some .int) 0 := ⟨zz_in (i := 476) (by decide +kernel) rfl, zz_in (i := 30) (by decide +kernel) rfl, zz_in (i := 474) (by decide +kernel) rfl, zz_in (i := 475) (by decide +kernel) rfl, ⟨by decide, by decide, by decide +kernel⟩⟩
theorem k_Forge_set : zz_Y1 y_Forge_set b_Forge_set 3 (some .boolean) 2 := ⟨zz_in (i := 480) (by decide +kernel) rfl, zz_in (i := 30) (by decide +kernel) rfl, zz_in (i := 478) (by decide +kernel) rfl, zz_in (i := 479) (by decide +kernel) rfl, ⟨by decide, by decide, by decide +kernel⟩⟩
theorem k_Forge_run : zz_Y1 y_Forge_run b_Forge_run 1 (some .int) 0 := ⟨zz_in (i := 484) (by decide +kernel) rfl, zz_in (i := 30) (by decide +kernel) rfl, zz_in (i := 482) (by decide +kernel) rfl, zz_in (i := 483) (by decide +kernel) rfl, ⟨by decide, by decide, by decide +kernel⟩⟩
theorem k_Code_execute : zz_Y1 y_Code_execute b_Code_execute 5 (some .int) 1 := ⟨zz_in (i := 488) (by decide +kernel) rfl, zz_in (i := 35) (by decide +kernel) rfl, zz_in (i := 486) (by decide +kernel) rfl, zz_in (i := 487) (by decide +kernel) rfl, ⟨by decide, by decide, by decide +kernel⟩⟩
theorem k_Forge_resultOf : zz_Y0 y_Forge_resultOf b_Forge_resultOf 5 (some .int) 5 := ⟨zz_in (i := 491) (by decide +kernel) rfl, zz_in (i := 30) (by decide +kernel) rfl, zz_in (i := 490) (by decide +kernel) rfl, ⟨by decide, by decide, by decide +kernel⟩⟩
theorem k_Forge_value : zz_Y1 y_Forge_value b_Forge_value 1 (some .int) 0 := ⟨zz_in (i := 495) (by decide +kernel) rfl, zz_in (i := 30) (by decide +kernel) rfl, zz_in (i := 493) (by decide +kernel) rfl, zz_in (i := 494) (by decide +kernel) rfl, ⟨by decide, by decide, by decide +kernel⟩⟩
theorem k_Pile_evaluateTop : zz_Y1 y_Pile_evaluateTop b_Pile_evaluateTop 6 (some .int) 1 := ⟨zz_in (i := 499) (by decide +kernel) rfl, zz_in (i := 32) (by decide +kernel) rfl, zz_in (i := 497) (by decide +kernel) rfl, zz_in (i := 498) (by decide +kernel) rfl, ⟨by decide, by decide, by decide +kernel⟩⟩
theorem k_Model_rule : zz_Y1 y_Model_rule b_Model_rule 6 (some .int) 5 := ⟨zz_in (i := 628) (by decide +kernel) rfl, zz_in (i := 36) (by decide +kernel) rfl, zz_in (i := 626) (by decide +kernel) rfl, zz_in (i := 627) (by decide +kernel) rfl, ⟨by decide, by decide, by decide +kernel⟩⟩
theorem k_Model_outside : zz_Y0 y_Model_outside b_Model_outside 2 (some .boolean) 2 := ⟨zz_in (i := 631) (by decide +kernel) rfl, zz_in (i := 36) (by decide +kernel) rfl, zz_in (i := 630) (by decide +kernel) rfl, ⟨by decide, by decide, by decide +kernel⟩⟩
theorem k_Model_clear : zz_Y1 y_Model_clear b_Model_clear 1 none 0 := ⟨zz_in (i := 635) (by decide +kernel) rfl, zz_in (i := 36) (by decide +kernel) rfl, zz_in (i := 633) (by decide +kernel) rfl, zz_in (i := 634) (by decide +kernel) rfl, ⟨by decide, by decide, by decide +kernel⟩⟩
theorem k_Model_states : zz_Y1 y_Model_states b_Model_states 4 (some .int) 0 := ⟨zz_in (i := 639) (by decide +kernel) rfl, zz_in (i := 36) (by decide +kernel) rfl, zz_in (i := 637) (by decide +kernel) rfl, zz_in (i := 638) (by decide +kernel) rfl, ⟨by decide, by decide, by decide +kernel⟩⟩
theorem k_Model_combine : zz_Y1 y_Model_combine b_Model_combine 6 none 1 := ⟨zz_in (i := 643) (by decide +kernel) rfl, zz_in (i := 36) (by decide +kernel) rfl, zz_in (i := 642) (by decide +kernel) rfl, zz_in (i := 15) (by decide +kernel) rfl, ⟨by decide, by decide, by decide +kernel⟩⟩
theorem k_Model_through : zz_Y1 y_Model_through b_Model_through 6 (some .long) 2 := ⟨zz_in (i := 648) (by decide +kernel) rfl, zz_in (i := 36) (by decide +kernel) rfl, zz_in (i := 647) (by decide +kernel) rfl, zz_in (i := 16) (by decide +kernel) rfl, ⟨by decide, by decide, by decide +kernel⟩⟩
theorem k_Model_kids : zz_Y0 y_Model_kids b_Model_kids 1 (some .int) 1 := ⟨zz_in (i := 651) (by decide +kernel) rfl, zz_in (i := 36) (by decide +kernel) rfl, zz_in (i := 650) (by decide +kernel) rfl, ⟨by decide, by decide, by decide +kernel⟩⟩
theorem k_Model_known : zz_Y1 y_Model_known b_Model_known 8 (some .boolean) 0 := ⟨zz_in (i := 655) (by decide +kernel) rfl, zz_in (i := 36) (by decide +kernel) rfl, zz_in (i := 654) (by decide +kernel) rfl, zz_in (i := 17) (by decide +kernel) rfl, ⟨by decide, by decide, by decide +kernel⟩⟩
theorem k_Model_lowest : zz_Y1 y_Model_lowest b_Model_lowest 4 (some .long) 0 := ⟨zz_in (i := 659) (by decide +kernel) rfl, zz_in (i := 36) (by decide +kernel) rfl, zz_in (i := 658) (by decide +kernel) rfl, zz_in (i := 18) (by decide +kernel) rfl, ⟨by decide, by decide, by decide +kernel⟩⟩
theorem k_Model_reach : zz_Y1 y_Model_reach b_Model_reach 5 (some .boolean) 3 := ⟨zz_in (i := 663) (by decide +kernel) rfl, zz_in (i := 36) (by decide +kernel) rfl, zz_in (i := 662) (by decide +kernel) rfl, zz_in (i := 19) (by decide +kernel) rfl, ⟨by decide, by decide, by decide +kernel⟩⟩
theorem k_Model_push : zz_Y1 y_Model_push b_Model_push 6 (some .int) 2 := ⟨zz_in (i := 667) (by decide +kernel) rfl, zz_in (i := 36) (by decide +kernel) rfl, zz_in (i := 665) (by decide +kernel) rfl, zz_in (i := 666) (by decide +kernel) rfl, ⟨by decide, by decide, by decide +kernel⟩⟩
theorem k_Model_pop : zz_Y1 y_Model_pop b_Model_pop 1 (some .boolean) 0 := ⟨zz_in (i := 671) (by decide +kernel) rfl, zz_in (i := 36) (by decide +kernel) rfl, zz_in (i := 669) (by decide +kernel) rfl, zz_in (i := 670) (by decide +kernel) rfl, ⟨by decide, by decide, by decide +kernel⟩⟩
theorem k_Model_trees : zz_Y1 y_Model_trees b_Model_trees 1 (some .int) 0 := ⟨zz_in (i := 675) (by decide +kernel) rfl, zz_in (i := 36) (by decide +kernel) rfl, zz_in (i := 673) (by decide +kernel) rfl, zz_in (i := 674) (by decide +kernel) rfl, ⟨by decide, by decide, by decide +kernel⟩⟩
theorem k_Model_nodes : zz_Y1 y_Model_nodes b_Model_nodes 1 (some .int) 0 := ⟨zz_in (i := 679) (by decide +kernel) rfl, zz_in (i := 36) (by decide +kernel) rfl, zz_in (i := 677) (by decide +kernel) rfl, zz_in (i := 678) (by decide +kernel) rfl, ⟨by decide, by decide, by decide +kernel⟩⟩
theorem k_Model_relative : zz_Y1 y_Model_relative b_Model_relative 7 (some .int) 2 := ⟨zz_in (i := 683) (by decide +kernel) rfl, zz_in (i := 36) (by decide +kernel) rfl, zz_in (i := 681) (by decide +kernel) rfl, zz_in (i := 682) (by decide +kernel) rfl, ⟨by decide, by decide, by decide +kernel⟩⟩
theorem k_Model_noNode : zz_Y1 y_Model_noNode b_Model_noNode 3 (some .boolean) 2 := ⟨zz_in (i := 687) (by decide +kernel) rfl, zz_in (i := 36) (by decide +kernel) rfl, zz_in (i := 686) (by decide +kernel) rfl, zz_in (i := 20) (by decide +kernel) rfl, ⟨by decide, by decide, by decide +kernel⟩⟩
theorem k_Model_work : zz_Y1 y_Model_work b_Model_work 3 (some .boolean) 0 := ⟨zz_in (i := 692) (by decide +kernel) rfl, zz_in (i := 36) (by decide +kernel) rfl, zz_in (i := 691) (by decide +kernel) rfl, zz_in (i := 21) (by decide +kernel) rfl, ⟨by decide, by decide, by decide +kernel⟩⟩
theorem k_Model_takeKids : zz_Y1 y_Model_takeKids b_Model_takeKids 5 none 1 := ⟨zz_in (i := 696) (by decide +kernel) rfl, zz_in (i := 36) (by decide +kernel) rfl, zz_in (i := 695) (by decide +kernel) rfl, zz_in (i := 22) (by decide +kernel) rfl, ⟨by decide, by decide, by decide +kernel⟩⟩
theorem k_Model_choice : zz_Y1 y_Model_choice b_Model_choice 3 (some .int) 2 := ⟨zz_in (i := 700) (by decide +kernel) rfl, zz_in (i := 36) (by decide +kernel) rfl, zz_in (i := 698) (by decide +kernel) rfl, zz_in (i := 699) (by decide +kernel) rfl, ⟨by decide, by decide, by decide +kernel⟩⟩
theorem k_Model_cost : zz_Y1 y_Model_cost b_Model_cost 4 (some .int) 1 := ⟨zz_in (i := 704) (by decide +kernel) rfl, zz_in (i := 36) (by decide +kernel) rfl, zz_in (i := 702) (by decide +kernel) rfl, zz_in (i := 703) (by decide +kernel) rfl, ⟨by decide, by decide, by decide +kernel⟩⟩
theorem k_Model_registers : zz_Y1 y_Model_registers b_Model_registers 2 (some .boolean) 1 := ⟨zz_in (i := 708) (by decide +kernel) rfl, zz_in (i := 36) (by decide +kernel) rfl, zz_in (i := 706) (by decide +kernel) rfl, zz_in (i := 707) (by decide +kernel) rfl, ⟨by decide, by decide, by decide +kernel⟩⟩
theorem k_Model_cover : zz_Y1 y_Model_cover b_Model_cover 3 (some .int) 0 := ⟨zz_in (i := 712) (by decide +kernel) rfl, zz_in (i := 36) (by decide +kernel) rfl, zz_in (i := 710) (by decide +kernel) rfl, zz_in (i := 711) (by decide +kernel) rfl, ⟨by decide, by decide, by decide +kernel⟩⟩
theorem k_Model_want : zz_Y1 y_Model_want b_Model_want 6 none 1 := ⟨zz_in (i := 716) (by decide +kernel) rfl, zz_in (i := 36) (by decide +kernel) rfl, zz_in (i := 715) (by decide +kernel) rfl, zz_in (i := 23) (by decide +kernel) rfl, ⟨by decide, by decide, by decide +kernel⟩⟩
theorem k_Model_emit : zz_Y1 y_Model_emit b_Model_emit 8 none 2 := ⟨zz_in (i := 720) (by decide +kernel) rfl, zz_in (i := 36) (by decide +kernel) rfl, zz_in (i := 719) (by decide +kernel) rfl, zz_in (i := 24) (by decide +kernel) rfl, ⟨by decide, by decide, by decide +kernel⟩⟩
theorem k_Model_write : zz_Y1 y_Model_write b_Model_write 6 none 5 := ⟨zz_in (i := 724) (by decide +kernel) rfl, zz_in (i := 36) (by decide +kernel) rfl, zz_in (i := 723) (by decide +kernel) rfl, zz_in (i := 25) (by decide +kernel) rfl, ⟨by decide, by decide, by decide +kernel⟩⟩
theorem k_Model_settle : zz_Y1 y_Model_settle b_Model_settle 5 none 1 := ⟨zz_in (i := 728) (by decide +kernel) rfl, zz_in (i := 36) (by decide +kernel) rfl, zz_in (i := 727) (by decide +kernel) rfl, zz_in (i := 26) (by decide +kernel) rfl, ⟨by decide, by decide, by decide +kernel⟩⟩
theorem k_Model_holds : zz_Y1 y_Model_holds b_Model_holds 3 (some .boolean) 2 := ⟨zz_in (i := 732) (by decide +kernel) rfl, zz_in (i := 36) (by decide +kernel) rfl, zz_in (i := 731) (by decide +kernel) rfl, zz_in (i := 27) (by decide +kernel) rfl, ⟨by decide, by decide, by decide +kernel⟩⟩
theorem k_Model_instruction : zz_Y1 y_Model_instruction b_Model_instruction 4 (some .int) 2 := ⟨zz_in (i := 736) (by decide +kernel) rfl, zz_in (i := 36) (by decide +kernel) rfl, zz_in (i := 734) (by decide +kernel) rfl, zz_in (i := 735) (by decide +kernel) rfl, ⟨by decide, by decide, by decide +kernel⟩⟩
theorem k_Model_slots : zz_Y1 y_Model_slots b_Model_slots 1 (some .int) 0 := ⟨zz_in (i := 740) (by decide +kernel) rfl, zz_in (i := 36) (by decide +kernel) rfl, zz_in (i := 738) (by decide +kernel) rfl, zz_in (i := 739) (by decide +kernel) rfl, ⟨by decide, by decide, by decide +kernel⟩⟩
theorem k_Model_set : zz_Y1 y_Model_set b_Model_set 3 (some .boolean) 2 := ⟨zz_in (i := 744) (by decide +kernel) rfl, zz_in (i := 36) (by decide +kernel) rfl, zz_in (i := 742) (by decide +kernel) rfl, zz_in (i := 743) (by decide +kernel) rfl, ⟨by decide, by decide, by decide +kernel⟩⟩
theorem k_Model_run : zz_Y1 y_Model_run b_Model_run 4 (some .int) 0 := ⟨zz_in (i := 748) (by decide +kernel) rfl, zz_in (i := 36) (by decide +kernel) rfl, zz_in (i := 746) (by decide +kernel) rfl, zz_in (i := 747) (by decide +kernel) rfl, ⟨by decide, by decide, by decide +kernel⟩⟩
theorem k_Model_calculate : zz_Y1 y_Model_calculate b_Model_calculate 5 (some .int) 4 := ⟨zz_in (i := 752) (by decide +kernel) rfl, zz_in (i := 36) (by decide +kernel) rfl, zz_in (i := 751) (by decide +kernel) rfl, zz_in (i := 28) (by decide +kernel) rfl, ⟨by decide, by decide, by decide +kernel⟩⟩
theorem k_Model_value : zz_Y1 y_Model_value b_Model_value 4 (some .int) 0 := ⟨zz_in (i := 756) (by decide +kernel) rfl, zz_in (i := 36) (by decide +kernel) rfl, zz_in (i := 754) (by decide +kernel) rfl, zz_in (i := 755) (by decide +kernel) rfl, ⟨by decide, by decide, by decide +kernel⟩⟩
theorem w_mmax_code : Cond.code Lib.Math.max.name Lib.Math.max.code 2 (some .int) ∈ zz_tbl := zz_in (i := 352) (by decide +kernel) rfl
theorem w_mmax_st : Cond.static Lib.Math.max.name ∈ zz_tbl := zz_in (i := 351) (by decide +kernel) rfl
theorem w_mmin_code : Cond.code Lib.Math.min.name Lib.Math.min.code 2 (some .int) ∈ zz_tbl := zz_in (i := 372) (by decide +kernel) rfl
theorem w_mmin_st : Cond.static Lib.Math.min.name ∈ zz_tbl := zz_in (i := 371) (by decide +kernel) rfl
theorem w_math_ini : Cond.initialized "java/lang/Math" ∈ zz_tbl := zz_in (i := 38) (by decide +kernel) rfl
