/-! The rule book, and the class's own calls. Laid by wip/whole/prog/p14.py. -/
set_option maxHeartbeats 4000000 in
set_option maxRecDepth 100000 in
theorem c_Book_add (l : Launch) (q : xg_T) (S : zz_S) (k o a b c : Nat) (rl : mx_R) (R : Nat) (sz : Nat → Nat) (nb : Nat → Nat → Nat) (hB : xb_ok S rl R sz nb) (hR : R < 24) (ho : o ≤ 8) (hk : k < 4) (ha : a < 4) (hb : b < 4) (hc : c ≤ 9) (h8 : o = 8 → 1 ≤ c) : Met l y_Book_add (Cond.code y_Book_add b_Book_add 7 (some .int) :: zz_tbl) rm_Book_add (zz_Pc [.ref (zz_ad (xg_G q) 1), .int (nI k), .int (nI o), .int (nI a), .int (nI b), .int (nI c)] (xg_G q) S) (va_Qi (fun ans S1 => ans = nI R ∧ S1 = xb_put S R (sz o) k o a b c) (zz_P (xg_G q)) (zz_A (xg_G q))) 0 0 (zz_A (xg_G q)) := by
  refine zz_met (by decide) (Nat.le_of_ble_eq_true rfl) ?_
  intro p_ e_ s_ m_ bl_ mt_ c_ ls hC hK hZ hl
  have hC : zz_C p_ s_ m_ _ mt_ c_ b_Book_add 7 (some .int) "TreeCoverForge$RuleBook" := hC
  have hx_ := hC.1
  have hb_ := hC.2.1
  have hl : lv_has ls 7 [(0, .ref (zz_ad (xg_G q) 1)), (1, .int (nI k)), (2, .int (nI o)), (3, .int (nI a)), (4, .int (nI b)), (5, .int (nI c))] := hl
  have hso := (hB.2.2.2.2 o (by omega)).1
  have hsR := (hB.2.2.2.2 o (by omega)).2.1
  refine lv_aload_n hx_ hb_ d_Book_add_0 rfl (lv_at hl 0 rfl) ?_
  refine zz_get hC hK hZ 1 7 (Nat.le_of_ble_eq_true rfl) (xc_1 q _ _) rfl hin_Book (by decide) wd_71 rfl rfl d_Book_add_1 ?_
  refine zz_topi (y := nI R) hB.1 ?_
  refine lv_istore (i := 6) (lv' := [(6, .int (nI R)), (0, .ref (zz_ad (xg_G q) 1)), (1, .int (nI k)), (2, .int (nI o)), (3, .int (nI a)), (4, .int (nI b)), (5, .int (nI c))]) hx_ hb_ d_Book_add_4 hl (by decide) rfl (fun ls hl => ?_)
  refine lv_aload_n hx_ hb_ d_Book_add_6 rfl (lv_at hl 1 rfl) ?_
  refine zz_get hC hK hZ 1 0 (Nat.le_of_ble_eq_true rfl) (xc_1 q _ _) rfl hin_Book (by decide) wd_55 rfl rfl d_Book_add_7 ?_
  refine lv_iload hx_ hb_ d_Book_add_10 (lv_at hl 0 rfl) ?_
  refine lv_iload_n hx_ hb_ d_Book_add_12 rfl (lv_at hl 2 rfl) ?_
  refine zz_iast hC hK hZ 2 0 R (Nat.le_of_ble_eq_true rfl) (fun _ => xc_2 q _ _) rfl rfl (by omega) (by decide) d_Book_add_13 (fun H locs hZ => ?_)
  refine lv_aload_n hx_ hb_ d_Book_add_14 rfl (lv_at hl 1 rfl) ?_
  refine zz_get hC hK hZ 1 1 (Nat.le_of_ble_eq_true rfl) (xc_1 q _ _) rfl hin_Book (by decide) wd_57 rfl rfl d_Book_add_15 ?_
  refine lv_iload hx_ hb_ d_Book_add_18 (lv_at hl 0 rfl) ?_
  refine lv_iload_n hx_ hb_ d_Book_add_20 rfl (lv_at hl 3 rfl) ?_
  refine zz_iast hC hK hZ 3 0 R (Nat.le_of_ble_eq_true rfl) (fun _ => xc_3 q _ _) rfl rfl (by omega) (by decide) d_Book_add_21 (fun H locs hZ => ?_)
  refine lv_aload_n hx_ hb_ d_Book_add_22 rfl (lv_at hl 1 rfl) ?_
  refine zz_get hC hK hZ 1 2 (Nat.le_of_ble_eq_true rfl) (xc_1 q _ _) rfl hin_Book (by decide) wd_59 rfl rfl d_Book_add_23 ?_
  refine lv_iload hx_ hb_ d_Book_add_26 (lv_at hl 0 rfl) ?_
  refine lv_iload_n hx_ hb_ d_Book_add_28 rfl (lv_at hl 4 rfl) ?_
  refine zz_iast hC hK hZ 4 0 R (Nat.le_of_ble_eq_true rfl) (fun _ => xc_4 q _ _) rfl rfl (by omega) (by decide) d_Book_add_29 (fun H locs hZ => ?_)
  refine lv_aload_n hx_ hb_ d_Book_add_30 rfl (lv_at hl 1 rfl) ?_
  refine zz_get hC hK hZ 1 3 (Nat.le_of_ble_eq_true rfl) (xc_1 q _ _) rfl hin_Book (by decide) wd_62 rfl rfl d_Book_add_31 ?_
  refine lv_iload hx_ hb_ d_Book_add_34 (lv_at hl 0 rfl) ?_
  refine lv_iload hx_ hb_ d_Book_add_36 (lv_at hl 5 rfl) ?_
  refine zz_iast hC hK hZ 5 0 R (Nat.le_of_ble_eq_true rfl) (fun _ => xc_5 q _ _) rfl rfl (by omega) (by decide) d_Book_add_38 (fun H locs hZ => ?_)
  refine lv_aload_n hx_ hb_ d_Book_add_39 rfl (lv_at hl 1 rfl) ?_
  refine zz_get hC hK hZ 1 4 (Nat.le_of_ble_eq_true rfl) (xc_1 q _ _) rfl hin_Book (by decide) wd_65 rfl rfl d_Book_add_40 ?_
  refine lv_iload hx_ hb_ d_Book_add_43 (lv_at hl 0 rfl) ?_
  refine lv_iload hx_ hb_ d_Book_add_45 (lv_at hl 6 rfl) ?_
  refine zz_iast hC hK hZ 6 0 R (Nat.le_of_ble_eq_true rfl) (fun _ => xc_6 q _ _) rfl rfl (by omega) (by decide) d_Book_add_47 (fun H locs hZ => ?_)
  refine lv_aload_n hx_ hb_ d_Book_add_48 rfl (lv_at hl 1 rfl) ?_
  refine zz_get hC hK hZ 1 5 (Nat.le_of_ble_eq_true rfl) (xc_1 q _ _) rfl hin_Book (by decide) wd_67 rfl rfl d_Book_add_49 ?_
  refine lv_iload_n hx_ hb_ d_Book_add_52 rfl (lv_at hl 3 rfl) ?_
  refine zz_aald (q := (9 + o)) hC hK hZ 7 3 o (Nat.le_of_ble_eq_true rfl) (xc_7 q _ _) rfl rfl rfl (by omega) (by decide) rfl d_Book_add_53 ?_
  refine lv_aload_n hx_ hb_ d_Book_add_54 rfl (lv_at hl 1 rfl) ?_
  refine zz_get hC hK hZ 1 6 (Nat.le_of_ble_eq_true rfl) (xc_1 q _ _) rfl hin_Book (by decide) wd_69 rfl rfl d_Book_add_55 ?_
  refine lv_iload_n hx_ hb_ d_Book_add_58 rfl (lv_at hl 3 rfl) ?_
  refine zz_iald hC hK hZ 8 0 o (Nat.le_of_ble_eq_true rfl) (xc_8 q _ _) rfl rfl (by omega) (by decide) rfl d_Book_add_59 ?_
  refine zz_topi (y := nI (sz o)) hso ?_
  refine lv_iload hx_ hb_ d_Book_add_60 (lv_at hl 0 rfl) ?_
  refine zz_iast hC hK hZ (9 + o) 0 (sz o) (by show _ < 291; omega) (fun _ => xy_row q o (by omega) _ _) rfl rfl (by omega) (by decide) d_Book_add_62 (fun H locs hZ => ?_)
  refine lv_aload_n hx_ hb_ d_Book_add_63 rfl (lv_at hl 1 rfl) ?_
  refine zz_get hC hK hZ 1 6 (Nat.le_of_ble_eq_true rfl) (xc_1 q _ _) rfl hin_Book (by decide) wd_69 rfl rfl d_Book_add_64 ?_
  refine lv_iload_n hx_ hb_ d_Book_add_67 rfl (lv_at hl 3 rfl) ?_
  refine lv_dup2_11 hx_ hb_ d_Book_add_68 rfl rfl ?_
  refine zz_iald hC hK hZ 8 0 o (Nat.le_of_ble_eq_true rfl) (xc_8 q _ _) rfl rfl (by omega) (by decide) rfl d_Book_add_69 ?_
  refine zz_topi (y := nI (sz o)) (by rw [zz_u1 _ (9 + o) _ _ 8 (by omega)]; exact hso) ?_
  refine lv_iconst (v := nI 1) hx_ hb_ d_Book_add_70 (by decide) ?_
  refine lv_iadd hx_ hb_ d_Book_add_71 ?_
  refine zz_topi (y := nI (sz o + 1)) (nI_add _ _) ?_
  refine zz_iast hC hK hZ 8 0 o (Nat.le_of_ble_eq_true rfl) (fun _ => xc_8 q _ _) rfl rfl (by omega) (by decide) d_Book_add_72 (fun H locs hZ => ?_)
  refine lv_aload_n hx_ hb_ d_Book_add_73 rfl (lv_at hl 1 rfl) ?_
  refine lv_dup hx_ hb_ d_Book_add_74 rfl ?_
  refine zz_get hC hK hZ 1 7 (Nat.le_of_ble_eq_true rfl) (xc_1 q _ _) rfl hin_Book (by decide) wd_71 rfl rfl d_Book_add_75 ?_
  refine zz_topi (y := nI R) (by rw [zz_u1 _ 8 _ _ 1 (by omega), zz_u1 _ (9 + o) _ _ 1 (by omega)]; exact hB.1) ?_
  refine lv_iconst (v := nI 1) hx_ hb_ d_Book_add_78 (by decide) ?_
  refine lv_iadd hx_ hb_ d_Book_add_79 ?_
  refine zz_topi (y := nI (R + 1)) (nI_add _ _) ?_
  refine zz_put hC hK hZ 1 7 (Nat.le_of_ble_eq_true rfl) (xc_1 q _ _) rfl hin_Book t_Book t_Book_ok n_Book (by decide) wd_71 rfl rfl rfl (Nat.le_of_ble_eq_true rfl) rfl d_Book_add_80 (fun H locs hZ => ?_)
  refine lv_iload hx_ hb_ d_Book_add_83 (lv_at hl 0 rfl) ?_
  exact zz_iret hC hK hZ rfl d_Book_add_85 ⟨rfl, rfl⟩
set_option maxHeartbeats 4000000 in
set_option maxRecDepth 100000 in
theorem c_Book_removeAll (l : Launch) (q : xg_T) (S : zz_S)  : Met l y_Book_removeAll (Cond.code y_Book_removeAll b_Book_removeAll 1 none :: zz_tbl) rm_Book_removeAll (zz_Pc [.ref (zz_ad (xg_G q) 1)] (xg_G q) S) (va_Qv (fun S1 => zz_off (fun x => x = 1 ∨ x = 8) S S1 ∧ S1.1 1 7 = nI 0 ∧ ∀ k, k < 9 → S1.1 8 k = nI 0) (zz_P (xg_G q)) (zz_A (xg_G q))) 0 0 (zz_A (xg_G q)) := by
  refine zz_met (by decide) (Nat.le_of_ble_eq_true rfl) ?_
  intro p_ e_ s_ m_ bl_ mt_ c_ ls hC hK hZ hl
  have hC : zz_C p_ s_ m_ _ mt_ c_ b_Book_removeAll 1 none "TreeCoverForge$RuleBook" := hC
  have hx_ := hC.1
  have hb_ := hC.2.1
  have hl : lv_has ls 1 [(0, .ref (zz_ad (xg_G q) 1))] := hl
  refine lv_aload_n hx_ hb_ d_Book_removeAll_0 rfl (lv_at hl 0 rfl) ?_
  refine lv_iconst (v := nI 0) hx_ hb_ d_Book_removeAll_1 (by decide) ?_
  refine zz_put hC hK hZ 1 7 (Nat.le_of_ble_eq_true rfl) (xc_1 q _ _) rfl hin_Book t_Book t_Book_ok n_Book (by decide) wd_71 rfl rfl rfl (Nat.le_of_ble_eq_true rfl) rfl d_Book_removeAll_2 (fun H locs hZ => ?_)
  refine lv_aload_n hx_ hb_ d_Book_removeAll_5 rfl (lv_at hl 0 rfl) ?_
  refine zz_get hC hK hZ 1 6 (Nat.le_of_ble_eq_true rfl) (xc_1 q _ _) rfl hin_Book (by decide) wd_69 rfl rfl d_Book_removeAll_6 ?_
  refine lv_iconst (v := nI 0) hx_ hb_ d_Book_removeAll_9 (by decide) ?_
  refine zz_cv (zz_rS (As := [.ref (zz_ad (xg_G q) 8), .int (nI 0)]) (rest := []) hC hK hZ (c_fill8 l q (zz_u S 1 7 (nI 0)) (nI 0)) k_Arrays_fillI wd_279 ⟨rfl, rfl, by decide, by decide⟩ rfl hl.1 rfl (Nat.le_of_ble_eq_true rfl) d_Book_removeAll_10 ⟨Nat.zero_le _, Nat.zero_le _⟩) hZ (fun S10 H locs hp10 hZ => ?_)
  exact zz_vret hC hK hZ rfl d_Book_removeAll_13 ⟨zz_off_tr (fun d hd => ⟨zz_u1 S 1 7 _ d (fun h => hd (Or.inl h)), rfl⟩) (zz_off_mono hp10.1 (fun c h => Or.inr h)), by rw [(hp10.1 1 (by omega)).1]; rfl, hp10.2⟩
set_option maxHeartbeats 4000000 in
set_option maxRecDepth 100000 in
theorem c_Forge_forgetConclusions (l : Launch) (q : xg_T) (S : zz_S)  : Met l y_Forge_forgetConclusions (Cond.code y_Forge_forgetConclusions b_Forge_forgetConclusions 1 none :: zz_tbl) rm_Forge_forgetConclusions (zz_Pc [.ref (zz_ad (xg_G q) 0)] (xg_G q) S) (va_Qv (fun S1 => S1 = zz_u (zz_u S 25 3 (nI 0)) 18 9 (nI 0)) (zz_P (xg_G q)) (zz_A (xg_G q))) 0 0 (zz_A (xg_G q)) := by
  refine zz_met (by decide) (Nat.le_of_ble_eq_true rfl) ?_
  intro p_ e_ s_ m_ bl_ mt_ c_ ls hC hK hZ hl
  have hC : zz_C p_ s_ m_ _ mt_ c_ b_Forge_forgetConclusions 1 none "TreeCoverForge" := hC
  have hx_ := hC.1
  have hb_ := hC.2.1
  have hl : lv_has ls 1 [(0, .ref (zz_ad (xg_G q) 0))] := hl
  refine lv_aload_n hx_ hb_ d_Forge_forgetConclusions_0 rfl (lv_at hl 0 rfl) ?_
  refine zz_get hC hK hZ 0 2 (Nat.le_of_ble_eq_true rfl) (xc_0 q _ _) rfl hin_Forge (by decide) wd_231 rfl rfl d_Forge_forgetConclusions_1 ?_
  refine lv_iconst (v := nI 0) hx_ hb_ d_Forge_forgetConclusions_4 (by decide) ?_
  refine zz_put hC hK hZ 25 3 (Nat.le_of_ble_eq_true rfl) (xc_25 q _ _) rfl hin_Table t_Table t_Table_ok n_Table (by decide) wd_165 rfl rfl rfl (Nat.le_of_ble_eq_true rfl) rfl d_Forge_forgetConclusions_5 (fun H locs hZ => ?_)
  refine lv_aload_n hx_ hb_ d_Forge_forgetConclusions_8 rfl (lv_at hl 0 rfl) ?_
  refine zz_get hC hK hZ 0 1 (Nat.le_of_ble_eq_true rfl) (xc_0 q _ _) rfl hin_Forge (by decide) wd_230 rfl rfl d_Forge_forgetConclusions_9 ?_
  refine lv_iconst (v := nI 0) hx_ hb_ d_Forge_forgetConclusions_12 (by decide) ?_
  refine zz_put hC hK hZ 18 9 (Nat.le_of_ble_eq_true rfl) (xc_18 q _ _) rfl hin_Pile t_Pile t_Pile_ok n_Pile (by decide) wd_131 rfl rfl rfl (Nat.le_of_ble_eq_true rfl) rfl d_Forge_forgetConclusions_13 (fun H locs hZ => ?_)
  exact zz_vret hC hK hZ rfl d_Forge_forgetConclusions_16 rfl
set_option maxHeartbeats 4000000 in
set_option maxRecDepth 100000 in
theorem c_Forge_isTopNode (l : Launch) (q : xg_T) (S : zz_S) (nd : Int32) (op : Nat → Nat) (nu : Nat → Int32) (sz ht : Nat → Nat) (m t : Nat) (hP : xp_ok S op nu sz ht m t) : Met l y_Forge_isTopNode (Cond.code y_Forge_isTopNode b_Forge_isTopNode 2 (some .boolean) :: zz_tbl) rm_Forge_isTopNode (zz_Pc [.ref (zz_ad (xg_G q) 0), .int nd] (xg_G q) S) (va_Qi (fun ans S1 => S = S1 ∧ ans = nI (if 0 ≤ nd.toInt ∧ nd.toInt < ((if t = 0 then 0 else sz (m - 1) : Nat) : Int) then 1 else 0)) (zz_P (xg_G q)) (zz_A (xg_G q))) 0 0 (zz_A (xg_G q)) := by
  refine zz_met (by decide) (Nat.le_of_ble_eq_true rfl) ?_
  intro p_ e_ s_ m_ bl_ mt_ c_ ls hC hK hZ hl
  have hC : zz_C p_ s_ m_ _ mt_ c_ b_Forge_isTopNode 2 (some .boolean) "TreeCoverForge" := hC
  have hx_ := hC.1
  have hb_ := hC.2.1
  have hl : lv_has ls 2 [(0, .ref (zz_ad (xg_G q) 0)), (1, .int nd)] := hl
  have hts2 : (if t = 0 then 0 else sz (m - 1)) ≤ 40 := by
    have := hP.2.2.1
    split
    · omega
    · have := (hP.2.2.2.2.2.1 (m - 1) (by have := hP.2.2.2.1; omega)).2.2.1
      omega
  refine lv_iload_n hx_ hb_ d_Forge_isTopNode_0 rfl (lv_at hl 1 rfl) ?_
  refine zz_rilt (tgt := 19) hC d_Forge_isTopNode_1 (by decide) (fun h1 => ?_) (fun h1 => ?_)
  · refine lv_iconst (v := nI 0) hx_ hb_ d_Forge_isTopNode_19 (by decide) ?_
    exact zz_zret hC hK hZ rfl d_Forge_isTopNode_20 (by decide) ⟨rfl, by rw [if_neg (by omega)]⟩
  · refine lv_iload_n hx_ hb_ d_Forge_isTopNode_4 rfl (lv_at hl 1 rfl) ?_
    refine lv_aload_n hx_ hb_ d_Forge_isTopNode_5 rfl (lv_at hl 0 rfl) ?_
    refine zz_get hC hK hZ 0 1 (Nat.le_of_ble_eq_true rfl) (xc_0 q _ _) rfl hin_Forge (by decide) wd_230 rfl rfl d_Forge_isTopNode_6 ?_
    refine zz_ci (zz_rV (As := []) (rest := [.int nd]) hC hK hZ 18 (c_Pile_topSize l q S op nu sz ht m t hP) k_Pile_topSize (Nat.le_of_ble_eq_true rfl) (xc_18 q _ _) rfl wd_381 ⟨rfl, rfl, by decide, by decide⟩ rfl hl.1 rfl (Nat.le_of_ble_eq_true rfl) d_Forge_isTopNode_9 ⟨Nat.zero_le _, Nat.zero_le _⟩) hZ (fun r9 S9 H locs hp9 hZ => ?_)
    obtain ⟨rfl, rfl⟩ := hp9
    refine zz_rjge (tgt := 19) hC d_Forge_isTopNode_12 (by decide) (fun h12 => ?_) (fun h12 => ?_)
    · rw [nI_toInt (by omega)] at h12
      refine lv_iconst (v := nI 0) hx_ hb_ d_Forge_isTopNode_19 (by decide) ?_
      exact zz_zret hC hK hZ rfl d_Forge_isTopNode_20 (by decide) ⟨rfl, by rw [if_neg (by omega)]⟩
    · rw [nI_toInt (by omega)] at h12
      refine lv_iconst (v := nI 1) hx_ hb_ d_Forge_isTopNode_15 (by decide) ?_
      refine lv_goto (tgt := 20) hx_ hb_ d_Forge_isTopNode_16 (by decide) ?_
      exact zz_zret hC hK hZ rfl d_Forge_isTopNode_20 (by decide) ⟨rfl, by rw [if_pos (by omega)]⟩
