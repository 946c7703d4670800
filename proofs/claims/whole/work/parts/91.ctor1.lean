/-! The constructors: words, layouts, and the straight ones. Laid by wip/whole/prog/p40.py. -/
theorem w_arI : Cond.arrayClass .int ∈ zz_tbl := zz_in (i := 90) (by decide +kernel) rfl
theorem w_arJ : Cond.arrayClass .long ∈ zz_tbl := zz_in (i := 114) (by decide +kernel) rfl
theorem w_oi : Cond.instanceMethod objectInit ∈ zz_tbl := zz_in (i := 45) (by decide +kernel) rfl
theorem w_oc : Cond.code objectInit ⟨#[0xb1]⟩ 1 none ∈ zz_tbl := zz_in (i := 46) (by decide +kernel) rfl
theorem w_aoL : Cond.arrayOver (.object R_Label) ∈ lw_tbl := List.mem_of_getElem? (i := 98) (by decide +kernel)
theorem w_aoA : Cond.arrayOver (.array .int) ∈ lw_tbl := List.mem_of_getElem? (i := 54) (by decide +kernel)
theorem wi_Forge : Cond.initialized R_Forge ∈ zz_tbl := zz_in (i := 30) (by decide +kernel) rfl
theorem wn_Forge : Cond.instantiable R_Forge 6 ∈ zz_tbl := zz_in (i := 40) (by decide +kernel) rfl
theorem k_Forge_init : ct_Y y_Forge_init b_Forge_init 1 := ⟨zz_in (i := 43) (by decide +kernel) rfl, zz_in (i := 30) (by decide +kernel) rfl, zz_in (i := 42) (by decide +kernel) rfl, rfl, by decide +kernel⟩
theorem z_Forge : ∀ j, j < 6 → defaultValue (t_Forge j) = vp_V [.null, .null, .null, .null, .null, .int (nI 0)] j
  | 0, _ => rfl
  | 1, _ => rfl
  | 2, _ => rfl
  | 3, _ => rfl
  | 4, _ => rfl
  | 5, _ => rfl
  | j + 6, h => absurd h (by omega)
abbrev rc_Forge : Room := { frames := 3, cells := 290, slots := 3042, locals := 53 }
theorem wi_Book : Cond.initialized R_Book ∈ zz_tbl := zz_in (i := 31) (by decide +kernel) rfl
theorem wn_Book : Cond.instantiable R_Book 8 ∈ zz_tbl := zz_in (i := 48) (by decide +kernel) rfl
theorem k_Book_init : ct_Y y_Book_init b_Book_init 1 := ⟨zz_in (i := 51) (by decide +kernel) rfl, zz_in (i := 31) (by decide +kernel) rfl, zz_in (i := 50) (by decide +kernel) rfl, rfl, by decide +kernel⟩
theorem z_Book : ∀ j, j < 8 → defaultValue (t_Book j) = vp_V [.null, .null, .null, .null, .null, .null, .null, .int (nI 0)] j
  | 0, _ => rfl
  | 1, _ => rfl
  | 2, _ => rfl
  | 3, _ => rfl
  | 4, _ => rfl
  | 5, _ => rfl
  | 6, _ => rfl
  | 7, _ => rfl
  | j + 8, h => absurd h (by omega)
abbrev rc_Book : Room := { frames := 1, cells := 16, slots := 354, locals := 12 }
theorem wi_Label : Cond.initialized R_Label ∈ zz_tbl := zz_in (i := 33) (by decide +kernel) rfl
theorem wn_Label : Cond.instantiable R_Label 2 ∈ zz_tbl := zz_in (i := 99) (by decide +kernel) rfl
theorem k_Label_init : ct_Y y_Label_init b_Label_init 1 := ⟨zz_in (i := 102) (by decide +kernel) rfl, zz_in (i := 33) (by decide +kernel) rfl, zz_in (i := 101) (by decide +kernel) rfl, rfl, by decide +kernel⟩
theorem z_Label : ∀ j, j < 2 → defaultValue (t_Label j) = vp_V [.null, .null] j
  | 0, _ => rfl
  | 1, _ => rfl
  | j + 2, h => absurd h (by omega)
abbrev rc_Label : Room := { frames := 1, cells := 2, slots := 8, locals := 12 }
theorem wi_Table : Cond.initialized R_Table ∈ zz_tbl := zz_in (i := 34) (by decide +kernel) rfl
theorem wn_Table : Cond.instantiable R_Table 4 ∈ zz_tbl := zz_in (i := 154) (by decide +kernel) rfl
theorem k_Table_init : ct_Y y_Table_init b_Table_init 2 := ⟨zz_in (i := 157) (by decide +kernel) rfl, zz_in (i := 34) (by decide +kernel) rfl, zz_in (i := 156) (by decide +kernel) rfl, rfl, by decide +kernel⟩
theorem z_Table : ∀ j, j < 4 → defaultValue (t_Table j) = vp_V [.null, .null, .int (nI 0), .int (nI 0)] j
  | 0, _ => rfl
  | 1, _ => rfl
  | 2, _ => rfl
  | 3, _ => rfl
  | j + 4, h => absurd h (by omega)
abbrev rc_Table : Room := { frames := 2, cells := 127, slots := 461, locals := 32 }
theorem wi_Pile : Cond.initialized R_Pile ∈ zz_tbl := zz_in (i := 32) (by decide +kernel) rfl
theorem wn_Pile : Cond.instantiable R_Pile 10 ∈ zz_tbl := zz_in (i := 92) (by decide +kernel) rfl
theorem k_Pile_init : ct_Y y_Pile_init b_Pile_init 2 := ⟨zz_in (i := 95) (by decide +kernel) rfl, zz_in (i := 32) (by decide +kernel) rfl, zz_in (i := 94) (by decide +kernel) rfl, rfl, by decide +kernel⟩
theorem z_Pile : ∀ j, j < 10 → defaultValue (t_Pile j) = vp_V [.null, .null, .null, .null, .null, .null, .null, .int (nI 0), .int (nI 0), .int (nI 0)] j
  | 0, _ => rfl
  | 1, _ => rfl
  | 2, _ => rfl
  | 3, _ => rfl
  | 4, _ => rfl
  | 5, _ => rfl
  | 6, _ => rfl
  | 7, _ => rfl
  | 8, _ => rfl
  | 9, _ => rfl
  | j + 10, h => absurd h (by omega)
abbrev rc_Pile : Room := { frames := 2, cells := 129, slots := 650, locals := 32 }
theorem wi_Code : Cond.initialized R_Code ∈ zz_tbl := zz_in (i := 35) (by decide +kernel) rfl
theorem wn_Code : Cond.instantiable R_Code 15 ∈ zz_tbl := zz_in (i := 176) (by decide +kernel) rfl
theorem k_Code_init : ct_Y y_Code_init b_Code_init 1 := ⟨zz_in (i := 179) (by decide +kernel) rfl, zz_in (i := 35) (by decide +kernel) rfl, zz_in (i := 178) (by decide +kernel) rfl, rfl, by decide +kernel⟩
theorem z_Code : ∀ j, j < 15 → defaultValue (t_Code j) = vp_V [.null, .null, .null, .null, .null, .null, .null, .null, .null, .null, .null, .null, .null, .int (nI 0), .int (nI 0)] j
  | 0, _ => rfl
  | 1, _ => rfl
  | 2, _ => rfl
  | 3, _ => rfl
  | 4, _ => rfl
  | 5, _ => rfl
  | 6, _ => rfl
  | 7, _ => rfl
  | 8, _ => rfl
  | 9, _ => rfl
  | 10, _ => rfl
  | 11, _ => rfl
  | 12, _ => rfl
  | 13, _ => rfl
  | 14, _ => rfl
  | j + 15, h => absurd h (by omega)
abbrev rc_Code : Room := { frames := 1, cells := 13, slots := 1532, locals := 12 }
theorem wi_Model : Cond.initialized R_Model ∈ zz_tbl := zz_in (i := 36) (by decide +kernel) rfl
theorem wn_Model : Cond.instantiable R_Model 39 ∈ zz_tbl := zz_in (i := 502) (by decide +kernel) rfl
theorem k_Model_init : ct_Y y_Model_init b_Model_init 1 := ⟨zz_in (i := 505) (by decide +kernel) rfl, zz_in (i := 36) (by decide +kernel) rfl, zz_in (i := 504) (by decide +kernel) rfl, rfl, by decide +kernel⟩
theorem z_Model : ∀ j, j < 39 → defaultValue (t_Model j) = vp_V [.int (nI 0), .null, .null, .null, .null, .null, .int (nI 0), .null, .null, .null, .null, .int (nI 0), .null, .null, .null, .null, .null, .null, .null, .int (nI 0), .null, .null, .int (nI 0), .int (nI 0), .int (nI 0), .null, .null, .null, .null, .null, .null, .null, .null, .null, .null, .null, .null, .null, .null] j
  | 0, _ => rfl
  | 1, _ => rfl
  | 2, _ => rfl
  | 3, _ => rfl
  | 4, _ => rfl
  | 5, _ => rfl
  | 6, _ => rfl
  | 7, _ => rfl
  | 8, _ => rfl
  | 9, _ => rfl
  | 10, _ => rfl
  | 11, _ => rfl
  | 12, _ => rfl
  | 13, _ => rfl
  | 14, _ => rfl
  | 15, _ => rfl
  | 16, _ => rfl
  | 17, _ => rfl
  | 18, _ => rfl
  | 19, _ => rfl
  | 20, _ => rfl
  | 21, _ => rfl
  | 22, _ => rfl
  | 23, _ => rfl
  | 24, _ => rfl
  | 25, _ => rfl
  | 26, _ => rfl
  | 27, _ => rfl
  | 28, _ => rfl
  | 29, _ => rfl
  | 30, _ => rfl
  | 31, _ => rfl
  | 32, _ => rfl
  | 33, _ => rfl
  | 34, _ => rfl
  | 35, _ => rfl
  | 36, _ => rfl
  | 37, _ => rfl
  | 38, _ => rfl
  | j + 39, h => absurd h (by omega)
abbrev rc_Model : Room := { frames := 1, cells := 32, slots := 2560, locals := 12 }
def cy_L (q : xg_T) (b : Nat) : Nat → va_E := fun i => if i = 0 then .inr (2, [.ref (b + 1), .ref (b + 2)]) else if i = 1 then .inl (q.2.2.2.1, 4, .inr (.inl (fun _ => lN 0))) else .inl (q.2.2.1, 4, .inl (fun _ => nI 0))
def cy_B (q : xg_T) (b : Nat) (f : Nat → Option Nat) : Nat → va_E := fun i => if i = 0 then .inr (1, [.ref (b + 1), .ref (b + 2), .ref (b + 3), .ref (b + 4), .ref (b + 5), .ref (b + 6), .ref (b + 16), .int (nI 0)]) else if i < 6 then .inl (q.2.2.1, 24, .inl (fun _ => nI 0)) else if i = 6 then .inl (q.2.2.2.2.2.1, 9, .inr (.inr (.inr (.inr f)))) else if i < 16 then .inl (q.2.2.1, 24, .inl (fun _ => nI 0)) else .inl (q.2.2.1, 9, .inl (fun _ => nI 0))
def cy_C (q : xg_T) (b : Nat) : Nat → va_E := fun i => if i = 0 then .inr (5, [.ref (b + 1), .ref (b + 2), .ref (b + 3), .ref (b + 4), .ref (b + 5), .ref (b + 6), .ref (b + 7), .ref (b + 8), .ref (b + 9), .ref (b + 10), .ref (b + 11), .ref (b + 12), .ref (b + 13), .int (nI 0), .int (nI 0)]) else .inl (q.2.2.1, if i < 9 then 160 else if i = 9 then 164 else if i = 10 then 4 else if i < 13 then 40 else 4, .inl (fun _ => nI 0))
def cy_P (q : xg_T) (b : Nat) (f : Nat → Option Nat) : Nat → va_E := fun i => if i = 0 then .inr (4, [.ref (b + 1), .ref (b + 2), .ref (b + 3), .ref (b + 4), .ref (b + 5), .ref (b + 6), .ref (b + 7), .int (nI 0), .int (nI 0), .int (nI 0)]) else if i < 6 then .inl (q.2.2.1, 40, .inl (fun _ => nI 0)) else if i = 6 then .inl (q.2.2.2.2.1, 40, .inr (.inr (.inr (.inr f)))) else cy_L q (b + 7 + 3 * ((i - 7) / 3)) ((i - 7) % 3)
def cy_T (q : xg_T) (b : Nat) (f : Nat → Option Nat) : Nat → va_E := fun i => if i = 0 then .inr (3, [.ref (b + 1), .ref (b + 2), .int (nI 0), .int (nI 0)]) else if i = 1 then .inl (q.2.2.2.2.1, 41, .inr (.inr (.inr (.inr f)))) else cy_L q (b + 2 + 3 * ((i - 2) / 3)) ((i - 2) % 3)
def cy_M (q : xg_T) (b : Nat) : Nat → va_E := fun i => my_Y (q.1, (fun c => b + c), q.2.2) i (lj_M.1 i) (lj_M.2 i)
theorem cy_P_lab {q : xg_T} {b n k i : Nat} {f : Nat → Option Nat} (hn : n = 7 + 3 * k) (hi : i < 3) : cy_P q b f (n + i) = cy_L q (b + n) i := by
  unfold cy_P
  rw [if_neg (by omega), if_neg (by omega), if_neg (by omega), show (n + i - 7) / 3 = k by omega, show (n + i - 7) % 3 = i by omega, show b + 7 + 3 * k = b + n by omega]
theorem cy_T_lab {q : xg_T} {b n k i : Nat} {f : Nat → Option Nat} (hn : n = 2 + 3 * k) (hi : i < 3) : cy_T q b f (n + i) = cy_L q (b + n) i := by
  unfold cy_T
  rw [if_neg (by omega), if_neg (by omega), show (n + i - 2) / 3 = k by omega, show (n + i - 2) % 3 = i by omega, show b + 2 + 3 * k = b + n by omega]
theorem cy_P_o {q : xg_T} {b j : Nat} {f g : Nat → Option Nat} (h : j ≠ 6) : cy_P q b f j = cy_P q b g j := by
  unfold cy_P
  rw [if_neg h, if_neg h]
theorem cy_T_o {q : xg_T} {b j : Nat} {f g : Nat → Option Nat} (h : j ≠ 1) : cy_T q b f j = cy_T q b g j := by
  unfold cy_T
  rw [if_neg h, if_neg h]
theorem cy_ai {cA : ClassId} {N : Nat} {f : Nat → Int32} (h : ∀ k, f k = nI 0) : vp_cell cA (N, .inl f) = arrV cA N (fun _ => defaultValue (newarray.typeOf .int)) := by
  rw [vp_cell_i]
  exact congrArg (arrV cA N) (funext fun k => by rw [h k]; rfl)
theorem cy_al {cA : ClassId} {N : Nat} {f : Nat → Int64} (h : ∀ k, f k = lN 0) : vp_cell cA (N, .inr (.inl f)) = arrV cA N (fun _ => defaultValue (newarray.typeOf .long)) := by
  rw [vp_cell_l]
  exact congrArg (arrV cA N) (funext fun k => by rw [h k]; rfl)
theorem ct_Z.arr {D : va_G} {cl : List vw_C} {b n k N : Nat} {Y Y' : Nat → va_E} {H0 H : Heap} {locs : List Loc} {cA : ClassId} {f g : Nat → Option Nat} (h : ct_Z D cl b n Y H0 H locs) (hY : Y k = .inl (cA, N, .inr (.inr (.inr (.inr f))))) (hY' : Y' k = .inl (cA, N, .inr (.inr (.inr (.inr g))))) (hfg : ∀ i, i < N → f i = g i) (ho : ∀ j, j ≠ k → Y j = Y' j) : ct_Z D cl b n Y' H0 H locs := by
  refine ⟨h.1, fun i hi => ?_, h.2.2⟩
  have h1 := h.2.1 i hi
  by_cases e : i = k
  · subst e
    rw [hY] at h1
    rw [hY']
    exact ct_arrat h1 hfg
  · rw [← ho i e]
    exact h1
set_option maxHeartbeats 4000000 in
set_option maxRecDepth 100000 in
theorem c_Label_init (l : Launch) (q : xg_T) (b : Nat) : ct_M l y_Label_init b_Label_init 1 rc_Label q b 2 [.null, .null] 3 (cy_L q b) := by
  refine ct_met (by decide) rfl (by decide) ?_
  intro p e s m below meth c ls hC hin hK hs hZ hl
  have hC : zz_C p s m _ meth c b_Label_init 1 none "TreeCoverForge$Label" := hC
  have hx_ := hC.1
  have hb_ := hC.2.1
  have hZ := hZ.congr (Y' := ct_y 2 [.null, .null] (cy_L q b)) (fun i hi => by rw [show i = 0 by omega]; rfl)
  refine ct_obj hC hl rfl wd_103 w_oi w_oc d_Label_init_0 d_Label_init_1 (by decide) (by decide) ?_
  refine lv_aload_n hx_ hb_ d_Label_init_4 rfl (lv_at hl 0 rfl) ?_
  refine lv_iconst (v := nI 4) hx_ hb_ d_Label_init_5 (by decide) ?_
  refine ct_newa (atype := .long) (N := 4) (a0 := (4, .inr (.inl (fun _ => lN 0)))) (n1 := 2) (cells1 := 1) (slots1 := 4) hC hZ w_arJ hK.fJ rfl (by decide) (cy_al (fun _ => rfl)) (by decide) rfl rfl rfl rfl (by decide) (by decide) d_Label_init_6 (fun H hZ => ?_)
  refine ct_put hC hK.1 hZ (by decide) rfl hin_Label t_Label t_Label_ok n_Label 0 (by decide) wd_104 rfl (Or.inr ⟨rfl, hin, rfl⟩) (t_Label_ok 0 (by decide)) rfl rfl (Nat.le_of_ble_eq_true rfl) d_Label_init_8 (fun H locs hZ => ?_)
  refine lv_aload_n hx_ hb_ d_Label_init_11 rfl (lv_at hl 0 rfl) ?_
  refine lv_iconst (v := nI 4) hx_ hb_ d_Label_init_12 (by decide) ?_
  refine ct_newa (atype := .int) (N := 4) (a0 := (4, .inl (fun _ => nI 0))) (n1 := 3) (cells1 := 2) (slots1 := 8) hC hZ w_arI hK.fI rfl (by decide) (cy_ai (fun _ => rfl)) (by decide) rfl rfl rfl rfl (by decide) (by decide) d_Label_init_13 (fun H hZ => ?_)
  refine ct_put hC hK.1 hZ (by decide) rfl hin_Label t_Label t_Label_ok n_Label 1 (by decide) wd_106 rfl (Or.inr ⟨rfl, hin, rfl⟩) (t_Label_ok 1 (by decide)) rfl rfl (Nat.le_of_ble_eq_true rfl) d_Label_init_15 (fun H locs hZ => ?_)
  refine ct_ret hC rfl (hZ.congr (fun i hi => ?_)) d_Label_init_18
  by_cases h : i = 0
  · subst h
    rfl
  · exact ct_yi h
set_option maxHeartbeats 4000000 in
set_option maxRecDepth 100000 in
theorem c_Code_init (l : Launch) (q : xg_T) (b : Nat) : ct_M l y_Code_init b_Code_init 1 rc_Code q b 5 [.null, .null, .null, .null, .null, .null, .null, .null, .null, .null, .null, .null, .null, .int (nI 0), .int (nI 0)] 14 (cy_C q b) := by
  refine ct_met (by decide) rfl (by decide) ?_
  intro p e s m below meth c ls hC hin hK hs hZ hl
  have hC : zz_C p s m _ meth c b_Code_init 1 none "TreeCoverForge$Code" := hC
  have hx_ := hC.1
  have hb_ := hC.2.1
  have hZ := hZ.congr (Y' := ct_y 5 [.null, .null, .null, .null, .null, .null, .null, .null, .null, .null, .null, .null, .null, .int (nI 0), .int (nI 0)] (cy_C q b)) (fun i hi => by rw [show i = 0 by omega]; rfl)
  refine ct_obj hC hl rfl wd_180 w_oi w_oc d_Code_init_0 d_Code_init_1 (by decide) (by decide) ?_
  refine lv_aload_n hx_ hb_ d_Code_init_4 rfl (lv_at hl 0 rfl) ?_
  refine lv_sipush (v := nI 160) hx_ hb_ d_Code_init_5 (by decide) ?_
  refine ct_newa (atype := .int) (N := 160) (a0 := (160, .inl (fun _ => nI 0))) (n1 := 2) (cells1 := 1) (slots1 := 160) hC hZ w_arI hK.fI rfl (by decide) (cy_ai (fun _ => rfl)) (by decide) rfl rfl rfl rfl (by decide) (by decide) d_Code_init_8 (fun H hZ => ?_)
  refine ct_put hC hK.1 hZ (by decide) rfl hin_Code t_Code t_Code_ok n_Code 0 (by decide) wd_181 rfl (Or.inr ⟨rfl, hin, rfl⟩) (t_Code_ok 0 (by decide)) rfl rfl (Nat.le_of_ble_eq_true rfl) d_Code_init_10 (fun H locs hZ => ?_)
  refine lv_aload_n hx_ hb_ d_Code_init_13 rfl (lv_at hl 0 rfl) ?_
  refine lv_sipush (v := nI 160) hx_ hb_ d_Code_init_14 (by decide) ?_
  refine ct_newa (atype := .int) (N := 160) (a0 := (160, .inl (fun _ => nI 0))) (n1 := 3) (cells1 := 2) (slots1 := 320) hC hZ w_arI hK.fI rfl (by decide) (cy_ai (fun _ => rfl)) (by decide) rfl rfl rfl rfl (by decide) (by decide) d_Code_init_17 (fun H hZ => ?_)
  refine ct_put hC hK.1 hZ (by decide) rfl hin_Code t_Code t_Code_ok n_Code 1 (by decide) wd_182 rfl (Or.inr ⟨rfl, hin, rfl⟩) (t_Code_ok 1 (by decide)) rfl rfl (Nat.le_of_ble_eq_true rfl) d_Code_init_19 (fun H locs hZ => ?_)
  refine lv_aload_n hx_ hb_ d_Code_init_22 rfl (lv_at hl 0 rfl) ?_
  refine lv_sipush (v := nI 160) hx_ hb_ d_Code_init_23 (by decide) ?_
  refine ct_newa (atype := .int) (N := 160) (a0 := (160, .inl (fun _ => nI 0))) (n1 := 4) (cells1 := 3) (slots1 := 480) hC hZ w_arI hK.fI rfl (by decide) (cy_ai (fun _ => rfl)) (by decide) rfl rfl rfl rfl (by decide) (by decide) d_Code_init_26 (fun H hZ => ?_)
  refine ct_put hC hK.1 hZ (by decide) rfl hin_Code t_Code t_Code_ok n_Code 2 (by decide) wd_183 rfl (Or.inr ⟨rfl, hin, rfl⟩) (t_Code_ok 2 (by decide)) rfl rfl (Nat.le_of_ble_eq_true rfl) d_Code_init_28 (fun H locs hZ => ?_)
  refine lv_aload_n hx_ hb_ d_Code_init_31 rfl (lv_at hl 0 rfl) ?_
  refine lv_sipush (v := nI 160) hx_ hb_ d_Code_init_32 (by decide) ?_
  refine ct_newa (atype := .int) (N := 160) (a0 := (160, .inl (fun _ => nI 0))) (n1 := 5) (cells1 := 4) (slots1 := 640) hC hZ w_arI hK.fI rfl (by decide) (cy_ai (fun _ => rfl)) (by decide) rfl rfl rfl rfl (by decide) (by decide) d_Code_init_35 (fun H hZ => ?_)
  refine ct_put hC hK.1 hZ (by decide) rfl hin_Code t_Code t_Code_ok n_Code 3 (by decide) wd_184 rfl (Or.inr ⟨rfl, hin, rfl⟩) (t_Code_ok 3 (by decide)) rfl rfl (Nat.le_of_ble_eq_true rfl) d_Code_init_37 (fun H locs hZ => ?_)
  refine lv_aload_n hx_ hb_ d_Code_init_40 rfl (lv_at hl 0 rfl) ?_
  refine lv_sipush (v := nI 160) hx_ hb_ d_Code_init_41 (by decide) ?_
  refine ct_newa (atype := .int) (N := 160) (a0 := (160, .inl (fun _ => nI 0))) (n1 := 6) (cells1 := 5) (slots1 := 800) hC hZ w_arI hK.fI rfl (by decide) (cy_ai (fun _ => rfl)) (by decide) rfl rfl rfl rfl (by decide) (by decide) d_Code_init_44 (fun H hZ => ?_)
  refine ct_put hC hK.1 hZ (by decide) rfl hin_Code t_Code t_Code_ok n_Code 4 (by decide) wd_185 rfl (Or.inr ⟨rfl, hin, rfl⟩) (t_Code_ok 4 (by decide)) rfl rfl (Nat.le_of_ble_eq_true rfl) d_Code_init_46 (fun H locs hZ => ?_)
  refine lv_aload_n hx_ hb_ d_Code_init_49 rfl (lv_at hl 0 rfl) ?_
  refine lv_sipush (v := nI 160) hx_ hb_ d_Code_init_50 (by decide) ?_
  refine ct_newa (atype := .int) (N := 160) (a0 := (160, .inl (fun _ => nI 0))) (n1 := 7) (cells1 := 6) (slots1 := 960) hC hZ w_arI hK.fI rfl (by decide) (cy_ai (fun _ => rfl)) (by decide) rfl rfl rfl rfl (by decide) (by decide) d_Code_init_53 (fun H hZ => ?_)
  refine ct_put hC hK.1 hZ (by decide) rfl hin_Code t_Code t_Code_ok n_Code 5 (by decide) wd_186 rfl (Or.inr ⟨rfl, hin, rfl⟩) (t_Code_ok 5 (by decide)) rfl rfl (Nat.le_of_ble_eq_true rfl) d_Code_init_55 (fun H locs hZ => ?_)
  refine lv_aload_n hx_ hb_ d_Code_init_58 rfl (lv_at hl 0 rfl) ?_
  refine lv_sipush (v := nI 160) hx_ hb_ d_Code_init_59 (by decide) ?_
  refine ct_newa (atype := .int) (N := 160) (a0 := (160, .inl (fun _ => nI 0))) (n1 := 8) (cells1 := 7) (slots1 := 1120) hC hZ w_arI hK.fI rfl (by decide) (cy_ai (fun _ => rfl)) (by decide) rfl rfl rfl rfl (by decide) (by decide) d_Code_init_62 (fun H hZ => ?_)
  refine ct_put hC hK.1 hZ (by decide) rfl hin_Code t_Code t_Code_ok n_Code 6 (by decide) wd_187 rfl (Or.inr ⟨rfl, hin, rfl⟩) (t_Code_ok 6 (by decide)) rfl rfl (Nat.le_of_ble_eq_true rfl) d_Code_init_64 (fun H locs hZ => ?_)
  refine lv_aload_n hx_ hb_ d_Code_init_67 rfl (lv_at hl 0 rfl) ?_
  refine lv_sipush (v := nI 160) hx_ hb_ d_Code_init_68 (by decide) ?_
  refine ct_newa (atype := .int) (N := 160) (a0 := (160, .inl (fun _ => nI 0))) (n1 := 9) (cells1 := 8) (slots1 := 1280) hC hZ w_arI hK.fI rfl (by decide) (cy_ai (fun _ => rfl)) (by decide) rfl rfl rfl rfl (by decide) (by decide) d_Code_init_71 (fun H hZ => ?_)
  refine ct_put hC hK.1 hZ (by decide) rfl hin_Code t_Code t_Code_ok n_Code 7 (by decide) wd_188 rfl (Or.inr ⟨rfl, hin, rfl⟩) (t_Code_ok 7 (by decide)) rfl rfl (Nat.le_of_ble_eq_true rfl) d_Code_init_73 (fun H locs hZ => ?_)
  refine lv_aload_n hx_ hb_ d_Code_init_76 rfl (lv_at hl 0 rfl) ?_
  refine lv_sipush (v := nI 164) hx_ hb_ d_Code_init_77 (by decide) ?_
  refine ct_newa (atype := .int) (N := 164) (a0 := (164, .inl (fun _ => nI 0))) (n1 := 10) (cells1 := 9) (slots1 := 1444) hC hZ w_arI hK.fI rfl (by decide) (cy_ai (fun _ => rfl)) (by decide) rfl rfl rfl rfl (by decide) (by decide) d_Code_init_80 (fun H hZ => ?_)
  refine ct_put hC hK.1 hZ (by decide) rfl hin_Code t_Code t_Code_ok n_Code 8 (by decide) wd_189 rfl (Or.inr ⟨rfl, hin, rfl⟩) (t_Code_ok 8 (by decide)) rfl rfl (Nat.le_of_ble_eq_true rfl) d_Code_init_82 (fun H locs hZ => ?_)
  refine lv_aload_n hx_ hb_ d_Code_init_85 rfl (lv_at hl 0 rfl) ?_
  refine lv_iconst (v := nI 4) hx_ hb_ d_Code_init_86 (by decide) ?_
  refine ct_newa (atype := .int) (N := 4) (a0 := (4, .inl (fun _ => nI 0))) (n1 := 11) (cells1 := 10) (slots1 := 1448) hC hZ w_arI hK.fI rfl (by decide) (cy_ai (fun _ => rfl)) (by decide) rfl rfl rfl rfl (by decide) (by decide) d_Code_init_87 (fun H hZ => ?_)
  refine ct_put hC hK.1 hZ (by decide) rfl hin_Code t_Code t_Code_ok n_Code 9 (by decide) wd_190 rfl (Or.inr ⟨rfl, hin, rfl⟩) (t_Code_ok 9 (by decide)) rfl rfl (Nat.le_of_ble_eq_true rfl) d_Code_init_89 (fun H locs hZ => ?_)
  refine lv_aload_n hx_ hb_ d_Code_init_92 rfl (lv_at hl 0 rfl) ?_
  refine lv_bipush (v := nI 40) hx_ hb_ d_Code_init_93 (by decide) ?_
  refine ct_newa (atype := .int) (N := 40) (a0 := (40, .inl (fun _ => nI 0))) (n1 := 12) (cells1 := 11) (slots1 := 1488) hC hZ w_arI hK.fI rfl (by decide) (cy_ai (fun _ => rfl)) (by decide) rfl rfl rfl rfl (by decide) (by decide) d_Code_init_95 (fun H hZ => ?_)
  refine ct_put hC hK.1 hZ (by decide) rfl hin_Code t_Code t_Code_ok n_Code 10 (by decide) wd_191 rfl (Or.inr ⟨rfl, hin, rfl⟩) (t_Code_ok 10 (by decide)) rfl rfl (Nat.le_of_ble_eq_true rfl) d_Code_init_97 (fun H locs hZ => ?_)
  refine lv_aload_n hx_ hb_ d_Code_init_100 rfl (lv_at hl 0 rfl) ?_
  refine lv_bipush (v := nI 40) hx_ hb_ d_Code_init_101 (by decide) ?_
  refine ct_newa (atype := .int) (N := 40) (a0 := (40, .inl (fun _ => nI 0))) (n1 := 13) (cells1 := 12) (slots1 := 1528) hC hZ w_arI hK.fI rfl (by decide) (cy_ai (fun _ => rfl)) (by decide) rfl rfl rfl rfl (by decide) (by decide) d_Code_init_103 (fun H hZ => ?_)
  refine ct_put hC hK.1 hZ (by decide) rfl hin_Code t_Code t_Code_ok n_Code 11 (by decide) wd_192 rfl (Or.inr ⟨rfl, hin, rfl⟩) (t_Code_ok 11 (by decide)) rfl rfl (Nat.le_of_ble_eq_true rfl) d_Code_init_105 (fun H locs hZ => ?_)
  refine lv_aload_n hx_ hb_ d_Code_init_108 rfl (lv_at hl 0 rfl) ?_
  refine lv_iconst (v := nI 4) hx_ hb_ d_Code_init_109 (by decide) ?_
  refine ct_newa (atype := .int) (N := 4) (a0 := (4, .inl (fun _ => nI 0))) (n1 := 14) (cells1 := 13) (slots1 := 1532) hC hZ w_arI hK.fI rfl (by decide) (cy_ai (fun _ => rfl)) (by decide) rfl rfl rfl rfl (by decide) (by decide) d_Code_init_110 (fun H hZ => ?_)
  refine ct_put hC hK.1 hZ (by decide) rfl hin_Code t_Code t_Code_ok n_Code 12 (by decide) wd_193 rfl (Or.inr ⟨rfl, hin, rfl⟩) (t_Code_ok 12 (by decide)) rfl rfl (Nat.le_of_ble_eq_true rfl) d_Code_init_112 (fun H locs hZ => ?_)
  refine ct_ret hC rfl (hZ.congr (fun i hi => ?_)) d_Code_init_115
  by_cases h : i = 0
  · subst h
    rfl
  · exact ct_yi h
set_option maxHeartbeats 4000000 in
set_option maxRecDepth 100000 in
theorem c_Book_init (l : Launch) (q : xg_T) (b : Nat) (f : Nat → Option Nat) (hf : ∀ i, i < 9 → f i = some (b + (6 + 1 + i))) : ct_M l y_Book_init b_Book_init 1 rc_Book q b 1 [.null, .null, .null, .null, .null, .null, .null, .int (nI 0)] 17 (cy_B q b f) := by
  refine ct_met (by decide) rfl (by decide) ?_
  intro p e s m below meth c ls hC hin hK hs hZ hl
  have hC : zz_C p s m _ meth c b_Book_init 1 none "TreeCoverForge$RuleBook" := hC
  have hx_ := hC.1
  have hb_ := hC.2.1
  have hZ := hZ.congr (Y' := ct_y 1 [.null, .null, .null, .null, .null, .null, .null, .int (nI 0)] (cy_B q b f)) (fun i hi => by rw [show i = 0 by omega]; rfl)
  refine ct_obj hC hl rfl wd_52 w_oi w_oc d_Book_init_0 d_Book_init_1 (by decide) (by decide) ?_
  refine lv_aload_n hx_ hb_ d_Book_init_4 rfl (lv_at hl 0 rfl) ?_
  refine lv_bipush (v := nI 24) hx_ hb_ d_Book_init_5 (by decide) ?_
  refine ct_newa (atype := .int) (N := 24) (a0 := (24, .inl (fun _ => nI 0))) (n1 := 2) (cells1 := 1) (slots1 := 24) hC hZ w_arI hK.fI rfl (by decide) (cy_ai (fun _ => rfl)) (by decide) rfl rfl rfl rfl (by decide) (by decide) d_Book_init_7 (fun H hZ => ?_)
  refine ct_put hC hK.1 hZ (by decide) rfl hin_Book t_Book t_Book_ok n_Book 0 (by decide) wd_55 rfl (Or.inr ⟨rfl, hin, rfl⟩) (t_Book_ok 0 (by decide)) rfl rfl (Nat.le_of_ble_eq_true rfl) d_Book_init_9 (fun H locs hZ => ?_)
  refine lv_aload_n hx_ hb_ d_Book_init_12 rfl (lv_at hl 0 rfl) ?_
  refine lv_bipush (v := nI 24) hx_ hb_ d_Book_init_13 (by decide) ?_
  refine ct_newa (atype := .int) (N := 24) (a0 := (24, .inl (fun _ => nI 0))) (n1 := 3) (cells1 := 2) (slots1 := 48) hC hZ w_arI hK.fI rfl (by decide) (cy_ai (fun _ => rfl)) (by decide) rfl rfl rfl rfl (by decide) (by decide) d_Book_init_15 (fun H hZ => ?_)
  refine ct_put hC hK.1 hZ (by decide) rfl hin_Book t_Book t_Book_ok n_Book 1 (by decide) wd_57 rfl (Or.inr ⟨rfl, hin, rfl⟩) (t_Book_ok 1 (by decide)) rfl rfl (Nat.le_of_ble_eq_true rfl) d_Book_init_17 (fun H locs hZ => ?_)
  refine lv_aload_n hx_ hb_ d_Book_init_20 rfl (lv_at hl 0 rfl) ?_
  refine lv_bipush (v := nI 24) hx_ hb_ d_Book_init_21 (by decide) ?_
  refine ct_newa (atype := .int) (N := 24) (a0 := (24, .inl (fun _ => nI 0))) (n1 := 4) (cells1 := 3) (slots1 := 72) hC hZ w_arI hK.fI rfl (by decide) (cy_ai (fun _ => rfl)) (by decide) rfl rfl rfl rfl (by decide) (by decide) d_Book_init_23 (fun H hZ => ?_)
  refine ct_put hC hK.1 hZ (by decide) rfl hin_Book t_Book t_Book_ok n_Book 2 (by decide) wd_59 rfl (Or.inr ⟨rfl, hin, rfl⟩) (t_Book_ok 2 (by decide)) rfl rfl (Nat.le_of_ble_eq_true rfl) d_Book_init_25 (fun H locs hZ => ?_)
  refine lv_aload_n hx_ hb_ d_Book_init_28 rfl (lv_at hl 0 rfl) ?_
  refine lv_bipush (v := nI 24) hx_ hb_ d_Book_init_29 (by decide) ?_
  refine ct_newa (atype := .int) (N := 24) (a0 := (24, .inl (fun _ => nI 0))) (n1 := 5) (cells1 := 4) (slots1 := 96) hC hZ w_arI hK.fI rfl (by decide) (cy_ai (fun _ => rfl)) (by decide) rfl rfl rfl rfl (by decide) (by decide) d_Book_init_31 (fun H hZ => ?_)
  refine ct_put hC hK.1 hZ (by decide) rfl hin_Book t_Book t_Book_ok n_Book 3 (by decide) wd_62 rfl (Or.inr ⟨rfl, hin, rfl⟩) (t_Book_ok 3 (by decide)) rfl rfl (Nat.le_of_ble_eq_true rfl) d_Book_init_33 (fun H locs hZ => ?_)
  refine lv_aload_n hx_ hb_ d_Book_init_36 rfl (lv_at hl 0 rfl) ?_
  refine lv_bipush (v := nI 24) hx_ hb_ d_Book_init_37 (by decide) ?_
  refine ct_newa (atype := .int) (N := 24) (a0 := (24, .inl (fun _ => nI 0))) (n1 := 6) (cells1 := 5) (slots1 := 120) hC hZ w_arI hK.fI rfl (by decide) (cy_ai (fun _ => rfl)) (by decide) rfl rfl rfl rfl (by decide) (by decide) d_Book_init_39 (fun H hZ => ?_)
  refine ct_put hC hK.1 hZ (by decide) rfl hin_Book t_Book t_Book_ok n_Book 4 (by decide) wd_65 rfl (Or.inr ⟨rfl, hin, rfl⟩) (t_Book_ok 4 (by decide)) rfl rfl (Nat.le_of_ble_eq_true rfl) d_Book_init_41 (fun H locs hZ => ?_)
  refine lv_aload_n hx_ hb_ d_Book_init_44 rfl (lv_at hl 0 rfl) ?_
  refine lv_bipush (v := nI 9) hx_ hb_ d_Book_init_45 (by decide) ?_
  refine lv_bipush (v := nI 24) hx_ hb_ d_Book_init_47 (by decide) ?_
  refine ct_mna (N := 9) (K := 24) (f := f) (n1 := 16) (cells1 := 15) (slots1 := 345) hC hK hZ (zz_in (i := 53) (by decide +kernel) rfl) w_arI rfl rfl (by decide) (by decide) rfl hf (fun i hi => by unfold ct_y cy_B; rw [if_neg (by omega), if_neg (by omega), if_neg (by omega), if_neg (by omega), if_pos (by omega)]) rfl rfl rfl (by decide) (by decide) d_Book_init_49 (fun H hZ => ?_)
  refine ct_put hC hK.1 hZ (by decide) rfl hin_Book t_Book t_Book_ok n_Book 5 (by decide) wd_67 rfl (Or.inr ⟨rfl, hin, rfl⟩) (t_Book_ok 5 (by decide)) rfl rfl (Nat.le_of_ble_eq_true rfl) d_Book_init_53 (fun H locs hZ => ?_)
  refine lv_aload_n hx_ hb_ d_Book_init_56 rfl (lv_at hl 0 rfl) ?_
  refine lv_bipush (v := nI 9) hx_ hb_ d_Book_init_57 (by decide) ?_
  refine ct_newa (atype := .int) (N := 9) (a0 := (9, .inl (fun _ => nI 0))) (n1 := 17) (cells1 := 16) (slots1 := 354) hC hZ w_arI hK.fI rfl (by decide) (cy_ai (fun _ => rfl)) (by decide) rfl rfl rfl rfl (by decide) (by decide) d_Book_init_59 (fun H hZ => ?_)
  refine ct_put hC hK.1 hZ (by decide) rfl hin_Book t_Book t_Book_ok n_Book 6 (by decide) wd_69 rfl (Or.inr ⟨rfl, hin, rfl⟩) (t_Book_ok 6 (by decide)) rfl rfl (Nat.le_of_ble_eq_true rfl) d_Book_init_61 (fun H locs hZ => ?_)
  refine ct_ret hC rfl (hZ.congr (fun i hi => ?_)) d_Book_init_64
  by_cases h : i = 0
  · subst h
    rfl
  · exact ct_yi h
