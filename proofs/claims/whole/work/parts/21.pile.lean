/-! The pile of trees. Laid by wip/whole/prog/p2.py. -/
set_option maxHeartbeats 4000000 in
set_option maxRecDepth 100000 in
theorem c_Pile_topSize (l : Launch) (q : xg_T) (S : zz_S) (op : Nat → Nat) (nu : Nat → Int32) (sz ht : Nat → Nat) (m t : Nat) (hP : xp_ok S op nu sz ht m t) : Met l y_Pile_topSize (Cond.code y_Pile_topSize b_Pile_topSize 1 (some .int) :: zz_tbl) rm_Pile_topSize (zz_Pc [.ref (zz_ad (xg_G q) 18)] (xg_G q) S) (va_Qi (fun ans S1 => S = S1 ∧ ans = nI (if t = 0 then 0 else sz (m - 1))) (zz_P (xg_G q)) (zz_A (xg_G q))) 0 0 (zz_A (xg_G q)) := by
  refine zz_met (by decide) (Nat.le_of_ble_eq_true rfl) ?_
  intro p_ e_ s_ m_ bl_ mt_ c_ ls hC hK hZ hl
  have hC : zz_C p_ s_ m_ _ mt_ c_ b_Pile_topSize 1 (some .int) "TreeCoverForge$Pile" := hC
  have hx_ := hC.1
  have hb_ := hC.2.1
  have hl : lv_has ls 1 [(0, .ref (zz_ad (xg_G q) 18))] := hl
  have hP0 := hP
  obtain ⟨hm, ht0, hm40, htm, harr, htr, hts⟩ := hP
  refine lv_aload_n hx_ hb_ d_Pile_topSize_0 rfl (lv_at hl 0 rfl) ?_
  refine zz_get hC hK hZ 18 8 (Nat.le_of_ble_eq_true rfl) (xc_18 q _ _) rfl hin_Pile (by decide) wd_128 rfl rfl d_Pile_topSize_1 ?_
  refine zz_topi (y := nI t) ht0 ?_
  refine zz_ine (tgt := 11) hC d_Pile_topSize_4 (by decide) (by omega) (fun h4 => ?_) (fun h4 => ?_)
  · refine lv_aload_n hx_ hb_ d_Pile_topSize_11 rfl (lv_at hl 0 rfl) ?_
    refine zz_get hC hK hZ 18 2 (Nat.le_of_ble_eq_true rfl) (xc_18 q _ _) rfl hin_Pile (by decide) wd_119 rfl rfl d_Pile_topSize_12 ?_
    refine lv_aload_n hx_ hb_ d_Pile_topSize_15 rfl (lv_at hl 0 rfl) ?_
    refine zz_get hC hK hZ 18 7 (Nat.le_of_ble_eq_true rfl) (xc_18 q _ _) rfl hin_Pile (by decide) wd_125 rfl rfl d_Pile_topSize_16 ?_
    refine zz_topi (y := nI m) hm ?_
    refine lv_iconst (v := nI 1) hx_ hb_ d_Pile_topSize_19 (by decide) ?_
    refine lv_isub hx_ hb_ d_Pile_topSize_20 ?_
    refine zz_topi (y := nI (m - 1)) (pk_sub (by omega)) ?_
    refine zz_iald hC hK hZ 21 0 (m - 1) (Nat.le_of_ble_eq_true rfl) (xc_21 q _ _) rfl rfl (by omega) (by decide) rfl d_Pile_topSize_21 ?_
    refine zz_topi (y := nI (sz (m - 1))) (harr (m - 1) (by omega)).2.2.1 ?_
    exact zz_iret hC hK hZ rfl d_Pile_topSize_22 ⟨rfl, by rw [if_neg h4]⟩
  · refine lv_iconst (v := nI 0) hx_ hb_ d_Pile_topSize_7 (by decide) ?_
    refine lv_goto (tgt := 22) hx_ hb_ d_Pile_topSize_8 (by decide) ?_
    exact zz_iret hC hK hZ rfl d_Pile_topSize_22 ⟨rfl, by rw [if_pos h4]⟩
set_option maxHeartbeats 4000000 in
set_option maxRecDepth 100000 in
theorem c_Pile_topStart (l : Launch) (q : xg_T) (S : zz_S) (op : Nat → Nat) (nu : Nat → Int32) (sz ht : Nat → Nat) (m t : Nat) (hP : xp_ok S op nu sz ht m t) : Met l y_Pile_topStart (Cond.code y_Pile_topStart b_Pile_topStart 1 (some .int) :: zz_tbl) rm_Pile_topStart (zz_Pc [.ref (zz_ad (xg_G q) 18)] (xg_G q) S) (va_Qi (fun ans S1 => S = S1 ∧ ans = nI (m - if t = 0 then 0 else sz (m - 1))) (zz_P (xg_G q)) (zz_A (xg_G q))) 0 0 (zz_A (xg_G q)) := by
  refine zz_met (by decide) (Nat.le_of_ble_eq_true rfl) ?_
  intro p_ e_ s_ m_ bl_ mt_ c_ ls hC hK hZ hl
  have hC : zz_C p_ s_ m_ _ mt_ c_ b_Pile_topStart 1 (some .int) "TreeCoverForge$Pile" := hC
  have hx_ := hC.1
  have hb_ := hC.2.1
  have hl : lv_has ls 1 [(0, .ref (zz_ad (xg_G q) 18))] := hl
  have hP0 := hP
  obtain ⟨hm, ht0, hm40, htm, harr, htr, hts⟩ := hP
  have hle : (if t = 0 then 0 else sz (m - 1)) ≤ m := by
    split
    · omega
    · have := (htr (m - 1) (by omega)).2.2.1
      omega
  refine lv_aload_n hx_ hb_ d_Pile_topStart_0 rfl (lv_at hl 0 rfl) ?_
  refine zz_get hC hK hZ 18 7 (Nat.le_of_ble_eq_true rfl) (xc_18 q _ _) rfl hin_Pile (by decide) wd_125 rfl rfl d_Pile_topStart_1 ?_
  refine zz_topi (y := nI m) hm ?_
  refine lv_aload_n hx_ hb_ d_Pile_topStart_4 rfl (lv_at hl 0 rfl) ?_
  refine zz_ci (zz_rV (As := []) (rest := [.int (nI m)]) hC hK hZ 18 (c_Pile_topSize l q S op nu sz ht m t hP0) k_Pile_topSize (Nat.le_of_ble_eq_true rfl) (xc_18 q _ _) rfl wd_366 ⟨rfl, rfl, by decide, by decide⟩ rfl hl.1 rfl (Nat.le_of_ble_eq_true rfl) d_Pile_topStart_5 ⟨Nat.zero_le _, Nat.zero_le _⟩) hZ (fun r5 S5 H locs hp5 hZ => ?_)
  obtain ⟨rfl, rfl⟩ := hp5
  refine lv_isub hx_ hb_ d_Pile_topStart_8 ?_
  refine zz_topi (y := nI (m - (if t = 0 then 0 else sz (m - 1)))) (pk_sub (by omega)) ?_
  exact zz_iret hC hK hZ rfl d_Pile_topStart_9 ⟨rfl, rfl⟩
set_option maxHeartbeats 4000000 in
set_option maxRecDepth 100000 in
theorem c_Pile_firstKid (l : Launch) (q : xg_T) (S : zz_S) (op : Nat → Nat) (nu : Nat → Int32) (sz ht : Nat → Nat) (m t : Nat) (hP : xp_ok S op nu sz ht m t) (i o : Nat) (hi1 : 1 ≤ i) (him : i ≤ m) (ho : o < 8) (hk2 : zz_kd o = 2 → sz (i - 1) ≤ i - 1) : Met l y_Pile_firstKid (Cond.code y_Pile_firstKid b_Pile_firstKid 3 (some .int) :: zz_tbl) rm_Pile_firstKid (zz_Pc [.ref (zz_ad (xg_G q) 18), .int (nI i), .int (nI o)] (xg_G q) S) (va_Qi (fun ans S1 => S = S1 ∧ ans = nI (xp_fk sz i o)) (zz_P (xg_G q)) (zz_A (xg_G q))) 0 0 (zz_A (xg_G q)) := by
  refine zz_met (by decide) (Nat.le_of_ble_eq_true rfl) ?_
  intro p_ e_ s_ m_ bl_ mt_ c_ ls hC hK hZ hl
  have hC : zz_C p_ s_ m_ _ mt_ c_ b_Pile_firstKid 3 (some .int) "TreeCoverForge$Pile" := hC
  have hx_ := hC.1
  have hb_ := hC.2.1
  have hl : lv_has ls 3 [(0, .ref (zz_ad (xg_G q) 18)), (1, .int (nI i)), (2, .int (nI o))] := hl
  have hP0 := hP
  obtain ⟨hm, ht0, hm40, htm, harr, htr, hts⟩ := hP
  have hkd := tr_kd o
  refine zz_garsN hC hK hZ wd_345 d_Pile_firstKid_0 ?_
  refine lv_iload_n hx_ hb_ d_Pile_firstKid_3 rfl (lv_at hl 2 rfl) ?_
  refine zz_ari hC hK hZ o rfl (by omega) d_Pile_firstKid_4 ?_
  refine lv_iconst (v := nI 2) hx_ hb_ d_Pile_firstKid_5 (by decide) ?_
  refine zz_jne (tgt := 24) hC d_Pile_firstKid_6 (by decide) (by omega) (by omega) (fun h6 => ?_) (fun h6 => ?_)
  · refine lv_iload_n hx_ hb_ d_Pile_firstKid_24 rfl (lv_at hl 1 rfl) ?_
    refine lv_iconst (v := nI 1) hx_ hb_ d_Pile_firstKid_25 (by decide) ?_
    refine lv_isub hx_ hb_ d_Pile_firstKid_26 ?_
    refine zz_topi (y := nI (i - 1)) (pk_sub (by omega)) ?_
    exact zz_iret hC hK hZ rfl d_Pile_firstKid_27 ⟨rfl, by rw [xp_fk, if_neg h6]⟩
  · have hk3 := hk2 h6
    refine lv_iload_n hx_ hb_ d_Pile_firstKid_9 rfl (lv_at hl 1 rfl) ?_
    refine lv_iconst (v := nI 1) hx_ hb_ d_Pile_firstKid_10 (by decide) ?_
    refine lv_isub hx_ hb_ d_Pile_firstKid_11 ?_
    refine zz_topi (y := nI (i - 1)) (pk_sub (by omega)) ?_
    refine lv_aload_n hx_ hb_ d_Pile_firstKid_12 rfl (lv_at hl 0 rfl) ?_
    refine zz_get hC hK hZ 18 2 (Nat.le_of_ble_eq_true rfl) (xc_18 q _ _) rfl hin_Pile (by decide) wd_119 rfl rfl d_Pile_firstKid_13 ?_
    refine lv_iload_n hx_ hb_ d_Pile_firstKid_16 rfl (lv_at hl 1 rfl) ?_
    refine lv_iconst (v := nI 1) hx_ hb_ d_Pile_firstKid_17 (by decide) ?_
    refine lv_isub hx_ hb_ d_Pile_firstKid_18 ?_
    refine zz_topi (y := nI (i - 1)) (pk_sub (by omega)) ?_
    refine zz_iald hC hK hZ 21 0 (i - 1) (Nat.le_of_ble_eq_true rfl) (xc_21 q _ _) rfl rfl (by omega) (by decide) rfl d_Pile_firstKid_19 ?_
    refine zz_topi (y := nI (sz (i - 1))) (harr (i - 1) (by omega)).2.2.1 ?_
    refine lv_isub hx_ hb_ d_Pile_firstKid_20 ?_
    refine zz_topi (y := nI (i - 1 - (sz (i - 1)))) (pk_sub (by omega)) ?_
    refine lv_goto (tgt := 27) hx_ hb_ d_Pile_firstKid_21 (by decide) ?_
    exact zz_iret hC hK hZ rfl d_Pile_firstKid_27 ⟨rfl, by rw [xp_fk, if_pos h6]⟩
set_option maxHeartbeats 4000000 in
set_option maxRecDepth 100000 in
theorem c_Pile_heightOfNew (l : Launch) (q : xg_T) (S : zz_S) (op : Nat → Nat) (nu : Nat → Int32) (sz ht : Nat → Nat) (m t : Nat) (hP : xp_ok S op nu sz ht m t) (o : Nat) (ho : o < 8) (hk1 : 0 < zz_kd o → 1 ≤ m) (hk2 : zz_kd o = 2 → sz (m - 1) + 1 ≤ m) : Met l y_Pile_heightOfNew (Cond.code y_Pile_heightOfNew b_Pile_heightOfNew 2 (some .int) :: zz_tbl) rm_Pile_heightOfNew (zz_Pc [.ref (zz_ad (xg_G q) 18), .int (nI o)] (xg_G q) S) (va_Qi (fun ans S1 => S = S1 ∧ ans = nI (xp_hi sz ht m o)) (zz_P (xg_G q)) (zz_A (xg_G q))) 0 0 (zz_A (xg_G q)) := by
  refine zz_met (by decide) (Nat.le_of_ble_eq_true rfl) ?_
  intro p_ e_ s_ m_ bl_ mt_ c_ ls hC hK hZ hl
  have hC : zz_C p_ s_ m_ _ mt_ c_ b_Pile_heightOfNew 2 (some .int) "TreeCoverForge$Pile" := hC
  have hx_ := hC.1
  have hb_ := hC.2.1
  have hl : lv_has ls 2 [(0, .ref (zz_ad (xg_G q) 18)), (1, .int (nI o))] := hl
  have hP0 := hP
  obtain ⟨hm, ht0, hm40, htm, harr, htr, hts⟩ := hP
  have hkd := tr_kd o
  have hfk : 0 < zz_kd o → xp_fk sz m o < m := fun h => by
    have := hk1 h
    unfold xp_fk
    split <;> omega
  refine zz_garsN hC hK hZ wd_345 d_Pile_heightOfNew_0 ?_
  refine lv_iload_n hx_ hb_ d_Pile_heightOfNew_3 rfl (lv_at hl 1 rfl) ?_
  refine zz_ari hC hK hZ o rfl (by omega) d_Pile_heightOfNew_4 ?_
  refine zz_ine (tgt := 10) hC d_Pile_heightOfNew_5 (by decide) (by omega) (fun h5 => ?_) (fun h5 => ?_)
  · have hk3 := hk1 (by omega)
    have hk4 := hfk (by omega)
    have hh1 := harr (xp_fk sz m o) hk4
    have hh2 := harr (m - 1) (by omega)
    refine lv_iconst (v := nI 1) hx_ hb_ d_Pile_heightOfNew_10 (by decide) ?_
    refine lv_aload_n hx_ hb_ d_Pile_heightOfNew_11 rfl (lv_at hl 0 rfl) ?_
    refine zz_get hC hK hZ 18 3 (Nat.le_of_ble_eq_true rfl) (xc_18 q _ _) rfl hin_Pile (by decide) wd_120 rfl rfl d_Pile_heightOfNew_12 ?_
    refine lv_aload_n hx_ hb_ d_Pile_heightOfNew_15 rfl (lv_at hl 0 rfl) ?_
    refine lv_aload_n hx_ hb_ d_Pile_heightOfNew_16 rfl (lv_at hl 0 rfl) ?_
    refine zz_get hC hK hZ 18 7 (Nat.le_of_ble_eq_true rfl) (xc_18 q _ _) rfl hin_Pile (by decide) wd_125 rfl rfl d_Pile_heightOfNew_17 ?_
    refine zz_topi (y := nI m) hm ?_
    refine lv_iload_n hx_ hb_ d_Pile_heightOfNew_20 rfl (lv_at hl 1 rfl) ?_
    refine zz_ci (zz_rV (As := [.int (nI m), .int (nI o)]) (rest := [.ref (zz_ad (xg_G q) 22), .int (nI 1)]) hC hK hZ 18 (c_Pile_firstKid l q S op nu sz ht m t hP0 m o (by omega) (Nat.le_refl m) ho (fun h => by have := hk2 h; omega)) k_Pile_firstKid (Nat.le_of_ble_eq_true rfl) (xc_18 q _ _) rfl wd_346 ⟨rfl, rfl, by decide, by decide⟩ rfl hl.1 rfl (Nat.le_of_ble_eq_true rfl) d_Pile_heightOfNew_21 ⟨Nat.zero_le _, Nat.zero_le _⟩) hZ (fun r21 S21 H locs hp21 hZ => ?_)
    obtain ⟨rfl, rfl⟩ := hp21
    refine zz_iald hC hK hZ 22 0 (xp_fk sz m o) (Nat.le_of_ble_eq_true rfl) (xc_22 q _ _) rfl rfl (by omega) (by decide) rfl d_Pile_heightOfNew_24 ?_
    refine zz_topi (y := nI (ht (xp_fk sz m o))) hh1.2.2.2.1 ?_
    refine lv_aload_n hx_ hb_ d_Pile_heightOfNew_25 rfl (lv_at hl 0 rfl) ?_
    refine zz_get hC hK hZ 18 3 (Nat.le_of_ble_eq_true rfl) (xc_18 q _ _) rfl hin_Pile (by decide) wd_120 rfl rfl d_Pile_heightOfNew_26 ?_
    refine lv_aload_n hx_ hb_ d_Pile_heightOfNew_29 rfl (lv_at hl 0 rfl) ?_
    refine zz_get hC hK hZ 18 7 (Nat.le_of_ble_eq_true rfl) (xc_18 q _ _) rfl hin_Pile (by decide) wd_125 rfl rfl d_Pile_heightOfNew_30 ?_
    refine zz_topi (y := nI m) hm ?_
    refine lv_iconst (v := nI 1) hx_ hb_ d_Pile_heightOfNew_33 (by decide) ?_
    refine lv_isub hx_ hb_ d_Pile_heightOfNew_34 ?_
    refine zz_topi (y := nI (m - 1)) (pk_sub (by omega)) ?_
    refine zz_iald hC hK hZ 22 0 (m - 1) (Nat.le_of_ble_eq_true rfl) (xc_22 q _ _) rfl rfl (by omega) (by decide) rfl d_Pile_heightOfNew_35 ?_
    refine zz_topi (y := nI (ht (m - 1))) hh2.2.2.2.1 ?_
    refine va_mmax hx_ hb_ (hC.2.2.1.trans hl.1.symm) hC.2.2.2.1 (hC.2.2.2.2.1 _ wd_350) (hC.2.2.2.2.1 _ w_mmax_st) (hC.2.2.2.2.1 _ w_math_ini) (hC.2.2.2.2.1 _ w_mmax_code) (by decide) (Nat.le_of_ble_eq_true rfl) (Nat.zero_le _) (Nat.zero_le _) d_Pile_heightOfNew_36 ?_
    refine zz_topi (y := nI (max (ht (xp_fk sz m o)) (ht (m - 1)))) (zz_max (by omega) (by omega)) ?_
    refine lv_iadd hx_ hb_ d_Pile_heightOfNew_39 ?_
    refine zz_topi (y := nI (1 + (max (ht (xp_fk sz m o)) (ht (m - 1))))) (nI_add _ _) ?_
    exact zz_iret hC hK hZ rfl d_Pile_heightOfNew_40 ⟨rfl, by rw [xp_hi, if_neg h5]⟩
  · refine lv_iconst (v := nI 1) hx_ hb_ d_Pile_heightOfNew_8 (by decide) ?_
    exact zz_iret hC hK hZ rfl d_Pile_heightOfNew_9 ⟨rfl, by rw [xp_hi, if_pos h5]⟩
set_option maxHeartbeats 4000000 in
set_option maxRecDepth 100000 in
theorem c_Pile_add (l : Launch) (q : xg_T) (S : zz_S) (op : Nat → Nat) (nu : Nat → Int32) (sz ht : Nat → Nat) (m t : Nat) (hP : xp_ok S op nu sz ht m t) (o : Nat) (ho : o < 8) (hk1 : 0 < zz_kd o → 1 ≤ m) (hk2 : zz_kd o = 2 → sz (m - 1) + 1 ≤ m) (v : Int32) (hm2 : m < 40) (hkt : zz_kd o ≤ t) : Met l y_Pile_add (Cond.code y_Pile_add b_Pile_add 5 none :: zz_tbl) rm_Pile_add (zz_Pc [.ref (zz_ad (xg_G q) 18), .int (nI o), .int v] (xg_G q) S) (va_Qv (fun S1 => S1 = xp_add S m o v (xp_sz sz m o) (xp_hi sz ht m o) (t + 1 - zz_kd o)) (zz_P (xg_G q)) (zz_A (xg_G q))) 0 0 (zz_A (xg_G q)) := by
  refine zz_met (by decide) (Nat.le_of_ble_eq_true rfl) ?_
  intro p_ e_ s_ m_ bl_ mt_ c_ ls hC hK hZ hl
  have hC : zz_C p_ s_ m_ _ mt_ c_ b_Pile_add 5 none "TreeCoverForge$Pile" := hC
  have hx_ := hC.1
  have hb_ := hC.2.1
  have hl : lv_has ls 5 [(0, .ref (zz_ad (xg_G q) 18)), (1, .int (nI o)), (2, .int v)] := hl
  have hP0 := hP
  obtain ⟨hm, ht0, hm40, htm, harr, htr, hts⟩ := hP
  have hkd := tr_kd o
  have hfk : 0 < zz_kd o → xp_fk sz m o < m := fun h => by
    have := hk1 h
    unfold xp_fk
    split <;> omega
  have J42 : ∀ (n3 : Nat) (H : Heap) (locs : List Loc) (ls : Array Slot) (hn3 : n3 = xp_sz sz m o) (hZ : zz_Z (xg_G q) S s_.heap H locs) (hl : lv_has ls 5 [(0, .ref (zz_ad (xg_G q) 18)), (1, .int (nI o)), (2, .int v), (3, .int (nI n3))]), W p_ l e_ rm_Pile_add s_ m_ ([.ref (zz_ad (xg_G q) 18), .int (nI o), .int v] : List Value).toArray bl_ mt_ c_ H locs 0 0 (MQ bl_ (va_Qv (fun S1 => S1 = xp_add S m o v (xp_sz sz m o) (xp_hi sz ht m o) (t + 1 - zz_kd o)) (zz_P (xg_G q)) (zz_A (xg_G q))) ([.ref (zz_ad (xg_G q) 18), .int (nI o), .int v] : List Value).toArray s_ 0 0 (zz_A (xg_G q))) (F0 m_ 42 ls []) := by
    intro n3 H locs ls hn3 hZ hl
    refine lv_aload_n hx_ hb_ d_Pile_add_42 rfl (lv_at hl 0 rfl) ?_
    refine zz_get hC hK hZ 18 3 (Nat.le_of_ble_eq_true rfl) (xc_18 q _ _) rfl hin_Pile (by decide) wd_120 rfl rfl d_Pile_add_43 ?_
    refine lv_aload_n hx_ hb_ d_Pile_add_46 rfl (lv_at hl 0 rfl) ?_
    refine zz_get hC hK hZ 18 7 (Nat.le_of_ble_eq_true rfl) (xc_18 q _ _) rfl hin_Pile (by decide) wd_125 rfl rfl d_Pile_add_47 ?_
    refine zz_topi (y := nI m) hm ?_
    refine lv_aload_n hx_ hb_ d_Pile_add_50 rfl (lv_at hl 0 rfl) ?_
    refine lv_iload_n hx_ hb_ d_Pile_add_51 rfl (lv_at hl 1 rfl) ?_
    refine zz_ci (zz_rV (As := [.int (nI o)]) (rest := [.int (nI m), .ref (zz_ad (xg_G q) 22)]) hC hK hZ 18 (c_Pile_heightOfNew l q S op nu sz ht m t hP0 o ho hk1 hk2) k_Pile_heightOfNew (Nat.le_of_ble_eq_true rfl) (xc_18 q _ _) rfl wd_357 ⟨rfl, rfl, by decide, by decide⟩ rfl hl.1 rfl (Nat.le_of_ble_eq_true rfl) d_Pile_add_52 ⟨Nat.zero_le _, Nat.zero_le _⟩) hZ (fun r52 S52 H locs hp52 hZ => ?_)
    obtain ⟨rfl, rfl⟩ := hp52
    refine zz_iast hC hK hZ 22 0 m (Nat.le_of_ble_eq_true rfl) (fun _ => xc_22 q _ _) rfl rfl (by omega) (by decide) d_Pile_add_55 (fun H locs hZ => ?_)
    refine lv_aload_n hx_ hb_ d_Pile_add_56 rfl (lv_at hl 0 rfl) ?_
    refine zz_get hC hK hZ 18 2 (Nat.le_of_ble_eq_true rfl) (xc_18 q _ _) rfl hin_Pile (by decide) wd_119 rfl rfl d_Pile_add_57 ?_
    refine lv_aload_n hx_ hb_ d_Pile_add_60 rfl (lv_at hl 0 rfl) ?_
    refine zz_get hC hK hZ 18 7 (Nat.le_of_ble_eq_true rfl) (xc_18 q _ _) rfl hin_Pile (by decide) wd_125 rfl rfl d_Pile_add_61 ?_
    refine zz_topi (y := nI m) hm ?_
    refine lv_iload_n hx_ hb_ d_Pile_add_64 rfl (lv_at hl 3 rfl) ?_
    refine zz_iast hC hK hZ 21 0 m (Nat.le_of_ble_eq_true rfl) (fun _ => xc_21 q _ _) rfl rfl (by omega) (by decide) d_Pile_add_65 (fun H locs hZ => ?_)
    refine lv_aload_n hx_ hb_ d_Pile_add_66 rfl (lv_at hl 0 rfl) ?_
    refine zz_get hC hK hZ 18 0 (Nat.le_of_ble_eq_true rfl) (xc_18 q _ _) rfl hin_Pile (by decide) wd_115 rfl rfl d_Pile_add_67 ?_
    refine lv_aload_n hx_ hb_ d_Pile_add_70 rfl (lv_at hl 0 rfl) ?_
    refine zz_get hC hK hZ 18 7 (Nat.le_of_ble_eq_true rfl) (xc_18 q _ _) rfl hin_Pile (by decide) wd_125 rfl rfl d_Pile_add_71 ?_
    refine zz_topi (y := nI m) hm ?_
    refine lv_iload_n hx_ hb_ d_Pile_add_74 rfl (lv_at hl 1 rfl) ?_
    refine zz_iast hC hK hZ 19 0 m (Nat.le_of_ble_eq_true rfl) (fun _ => xc_19 q _ _) rfl rfl (by omega) (by decide) d_Pile_add_75 (fun H locs hZ => ?_)
    refine lv_aload_n hx_ hb_ d_Pile_add_76 rfl (lv_at hl 0 rfl) ?_
    refine zz_get hC hK hZ 18 1 (Nat.le_of_ble_eq_true rfl) (xc_18 q _ _) rfl hin_Pile (by decide) wd_117 rfl rfl d_Pile_add_77 ?_
    refine lv_aload_n hx_ hb_ d_Pile_add_80 rfl (lv_at hl 0 rfl) ?_
    refine zz_get hC hK hZ 18 7 (Nat.le_of_ble_eq_true rfl) (xc_18 q _ _) rfl hin_Pile (by decide) wd_125 rfl rfl d_Pile_add_81 ?_
    refine zz_topi (y := nI m) hm ?_
    refine lv_iload_n hx_ hb_ d_Pile_add_84 rfl (lv_at hl 2 rfl) ?_
    refine zz_iast hC hK hZ 20 0 m (Nat.le_of_ble_eq_true rfl) (fun _ => xc_20 q _ _) rfl rfl (by omega) (by decide) d_Pile_add_85 (fun H locs hZ => ?_)
    refine lv_aload_n hx_ hb_ d_Pile_add_86 rfl (lv_at hl 0 rfl) ?_
    refine lv_dup hx_ hb_ d_Pile_add_87 rfl ?_
    refine zz_get hC hK hZ 18 7 (Nat.le_of_ble_eq_true rfl) (xc_18 q _ _) rfl hin_Pile (by decide) wd_125 rfl rfl d_Pile_add_88 ?_
    refine zz_topi (y := nI m) hm ?_
    refine lv_iconst (v := nI 1) hx_ hb_ d_Pile_add_91 (by decide) ?_
    refine lv_iadd hx_ hb_ d_Pile_add_92 ?_
    refine zz_topi (y := nI (m + 1)) (nI_add _ _) ?_
    refine zz_put hC hK hZ 18 7 (Nat.le_of_ble_eq_true rfl) (xc_18 q _ _) rfl hin_Pile t_Pile t_Pile_ok n_Pile (by decide) wd_125 rfl rfl rfl (Nat.le_of_ble_eq_true rfl) rfl d_Pile_add_93 (fun H locs hZ => ?_)
    refine lv_aload_n hx_ hb_ d_Pile_add_96 rfl (lv_at hl 0 rfl) ?_
    refine lv_dup hx_ hb_ d_Pile_add_97 rfl ?_
    refine zz_get hC hK hZ 18 8 (Nat.le_of_ble_eq_true rfl) (xc_18 q _ _) rfl hin_Pile (by decide) wd_128 rfl rfl d_Pile_add_98 ?_
    refine zz_topi (y := nI t) ht0 ?_
    refine lv_iconst (v := nI 1) hx_ hb_ d_Pile_add_101 (by decide) ?_
    refine zz_garsN hC hK hZ wd_345 d_Pile_add_102 ?_
    refine lv_iload_n hx_ hb_ d_Pile_add_105 rfl (lv_at hl 1 rfl) ?_
    refine zz_ari hC hK hZ o rfl (by omega) d_Pile_add_106 ?_
    refine lv_isub hx_ hb_ d_Pile_add_107 ?_
    refine zz_topi (y := nI 1 - nI (zz_kd o)) rfl ?_
    refine lv_iadd hx_ hb_ d_Pile_add_108 ?_
    refine zz_topi (y := nI (t + 1 - zz_kd o)) (zz_asub (by omega)) ?_
    refine zz_put hC hK hZ 18 8 (Nat.le_of_ble_eq_true rfl) (xc_18 q _ _) rfl hin_Pile t_Pile t_Pile_ok n_Pile (by decide) wd_128 rfl rfl rfl (Nat.le_of_ble_eq_true rfl) rfl d_Pile_add_109 (fun H locs hZ => ?_)
    exact zz_vret hC hK hZ rfl d_Pile_add_112 (by rw [hn3]; rfl)
  refine lv_iconst (v := nI 1) hx_ hb_ d_Pile_add_0 (by decide) ?_
  refine lv_istore_n (i := 3) (lv' := [(3, .int (nI 1)), (0, .ref (zz_ad (xg_G q) 18)), (1, .int (nI o)), (2, .int v)]) hx_ hb_ d_Pile_add_1 rfl hl (by decide) rfl (fun ls hl => ?_)
  refine zz_garsN hC hK hZ wd_345 d_Pile_add_2 ?_
  refine lv_iload_n hx_ hb_ d_Pile_add_5 rfl (lv_at hl 2 rfl) ?_
  refine zz_ari hC hK hZ o rfl (by omega) d_Pile_add_6 ?_
  refine lv_iconst (v := nI 1) hx_ hb_ d_Pile_add_7 (by decide) ?_
  refine zz_jlt (tgt := 42) hC d_Pile_add_8 (by decide) (by omega) (by omega) (fun h8 => ?_) (fun h8 => ?_)
  · exact J42 1  _ _ _ (by rw [xp_sz, if_pos (by omega)]) hZ (lv_sub hl [1, 2, 3, 0] rfl)
  · have hk3 := hk1 (by omega)
    have hk4 := hfk (by omega)
    have hh1 := harr (xp_fk sz m o) hk4
    refine lv_aload_n hx_ hb_ d_Pile_add_11 rfl (lv_at hl 1 rfl) ?_
    refine lv_aload_n hx_ hb_ d_Pile_add_12 rfl (lv_at hl 1 rfl) ?_
    refine zz_get hC hK hZ 18 7 (Nat.le_of_ble_eq_true rfl) (xc_18 q _ _) rfl hin_Pile (by decide) wd_125 rfl rfl d_Pile_add_13 ?_
    refine zz_topi (y := nI m) hm ?_
    refine lv_iload_n hx_ hb_ d_Pile_add_16 rfl (lv_at hl 2 rfl) ?_
    refine zz_ci (zz_rV (As := [.int (nI m), .int (nI o)]) (rest := []) hC hK hZ 18 (c_Pile_firstKid l q S op nu sz ht m t hP0 m o (by omega) (Nat.le_refl m) ho (fun h => by have := hk2 h; omega)) k_Pile_firstKid (Nat.le_of_ble_eq_true rfl) (xc_18 q _ _) rfl wd_346 ⟨rfl, rfl, by decide, by decide⟩ rfl hl.1 rfl (Nat.le_of_ble_eq_true rfl) d_Pile_add_17 ⟨Nat.zero_le _, Nat.zero_le _⟩) hZ (fun r17 S17 H locs hp17 hZ => ?_)
    obtain ⟨rfl, rfl⟩ := hp17
    refine lv_istore (i := 4) (lv' := [(4, .int (nI (xp_fk sz m o))), (3, .int (nI 1)), (0, .ref (zz_ad (xg_G q) 18)), (1, .int (nI o)), (2, .int v)]) hx_ hb_ d_Pile_add_20 hl (by decide) rfl (fun ls hl => ?_)
    refine lv_iload_n hx_ hb_ d_Pile_add_22 rfl (lv_at hl 1 rfl) ?_
    refine lv_aload_n hx_ hb_ d_Pile_add_23 rfl (lv_at hl 2 rfl) ?_
    refine zz_get hC hK hZ 18 7 (Nat.le_of_ble_eq_true rfl) (xc_18 q _ _) rfl hin_Pile (by decide) wd_125 rfl rfl d_Pile_add_24 ?_
    refine zz_topi (y := nI m) hm ?_
    refine lv_iload hx_ hb_ d_Pile_add_27 (lv_at hl 0 rfl) ?_
    refine lv_isub hx_ hb_ d_Pile_add_29 ?_
    refine zz_topi (y := nI (m - (xp_fk sz m o))) (pk_sub (by omega)) ?_
    refine lv_iconst (v := nI 1) hx_ hb_ d_Pile_add_30 (by decide) ?_
    refine lv_isub hx_ hb_ d_Pile_add_31 ?_
    refine zz_topi (y := nI (m - (xp_fk sz m o) - 1)) (pk_sub (by omega)) ?_
    refine lv_aload_n hx_ hb_ d_Pile_add_32 rfl (lv_at hl 2 rfl) ?_
    refine zz_get hC hK hZ 18 2 (Nat.le_of_ble_eq_true rfl) (xc_18 q _ _) rfl hin_Pile (by decide) wd_119 rfl rfl d_Pile_add_33 ?_
    refine lv_iload hx_ hb_ d_Pile_add_36 (lv_at hl 0 rfl) ?_
    refine zz_iald hC hK hZ 21 0 (xp_fk sz m o) (Nat.le_of_ble_eq_true rfl) (xc_21 q _ _) rfl rfl (by omega) (by decide) rfl d_Pile_add_38 ?_
    refine zz_topi (y := nI (sz (xp_fk sz m o))) hh1.2.2.1 ?_
    refine lv_iadd hx_ hb_ d_Pile_add_39 ?_
    refine zz_topi (y := nI ((m - (xp_fk sz m o) - 1) + (sz (xp_fk sz m o)))) (nI_add _ _) ?_
    refine lv_iadd hx_ hb_ d_Pile_add_40 ?_
    refine zz_topi (y := nI (1 + ((m - (xp_fk sz m o) - 1) + (sz (xp_fk sz m o))))) (nI_add _ _) ?_
    refine lv_istore_n (i := 3) (lv' := [(3, .int (nI (1 + ((m - (xp_fk sz m o) - 1) + (sz (xp_fk sz m o)))))), (4, .int (nI (xp_fk sz m o))), (0, .ref (zz_ad (xg_G q) 18)), (1, .int (nI o)), (2, .int v)]) hx_ hb_ d_Pile_add_41 rfl hl (by decide) rfl (fun ls hl => ?_)
    exact J42 (1 + ((m - (xp_fk sz m o) - 1) + (sz (xp_fk sz m o))))  _ _ _ (by rw [xp_sz, if_neg (by omega)]) hZ (lv_sub hl [2, 3, 4, 0] rfl)
set_option maxHeartbeats 4000000 in
set_option maxRecDepth 100000 in
theorem c_Pile_removeTop (l : Launch) (q : xg_T) (S : zz_S) (op : Nat → Nat) (nu : Nat → Int32) (sz ht : Nat → Nat) (m t : Nat) (hP : xp_ok S op nu sz ht m t) (n : Nat) (hn : S.1 18 9 = nI n) (hnm : n ≤ m) (ht1 : 1 ≤ t) : Met l y_Pile_removeTop (Cond.code y_Pile_removeTop b_Pile_removeTop 1 none :: zz_tbl) rm_Pile_removeTop (zz_Pc [.ref (zz_ad (xg_G q) 18)] (xg_G q) S) (va_Qv (fun S1 => S1 = zz_u (zz_u (zz_u S 18 7 (nI (m - sz (m - 1)))) 18 8 (nI (t - 1))) 18 9 (nI (min n (m - sz (m - 1))))) (zz_P (xg_G q)) (zz_A (xg_G q))) 0 0 (zz_A (xg_G q)) := by
  refine zz_met (by decide) (Nat.le_of_ble_eq_true rfl) ?_
  intro p_ e_ s_ m_ bl_ mt_ c_ ls hC hK hZ hl
  have hC : zz_C p_ s_ m_ _ mt_ c_ b_Pile_removeTop 1 none "TreeCoverForge$Pile" := hC
  have hx_ := hC.1
  have hb_ := hC.2.1
  have hl : lv_has ls 1 [(0, .ref (zz_ad (xg_G q) 18))] := hl
  have hP0 := hP
  obtain ⟨hm, ht0, hm40, htm, harr, htr, hts⟩ := hP
  have hle := (htr (m - 1) (by omega)).2.2.1
  have e0 : (if t = 0 then 0 else sz (m - 1)) = sz (m - 1) := if_neg (by omega)
  refine lv_aload_n hx_ hb_ d_Pile_removeTop_0 rfl (lv_at hl 0 rfl) ?_
  refine lv_dup hx_ hb_ d_Pile_removeTop_1 rfl ?_
  refine zz_get hC hK hZ 18 7 (Nat.le_of_ble_eq_true rfl) (xc_18 q _ _) rfl hin_Pile (by decide) wd_125 rfl rfl d_Pile_removeTop_2 ?_
  refine zz_topi (y := nI m) hm ?_
  refine lv_aload_n hx_ hb_ d_Pile_removeTop_5 rfl (lv_at hl 0 rfl) ?_
  refine zz_ci (zz_rV (As := []) (rest := [.int (nI m), .ref (zz_ad (xg_G q) 18)]) hC hK hZ 18 (c_Pile_topSize l q S op nu sz ht m t hP0) k_Pile_topSize (Nat.le_of_ble_eq_true rfl) (xc_18 q _ _) rfl wd_366 ⟨rfl, rfl, by decide, by decide⟩ rfl hl.1 rfl (Nat.le_of_ble_eq_true rfl) d_Pile_removeTop_6 ⟨Nat.zero_le _, Nat.zero_le _⟩) hZ (fun r6 S6 H locs hp6 hZ => ?_)
  obtain ⟨rfl, rfl⟩ := hp6
  rw [e0]
  refine lv_isub hx_ hb_ d_Pile_removeTop_9 ?_
  refine zz_topi (y := nI (m - (sz (m - 1)))) (pk_sub (by omega)) ?_
  refine zz_put hC hK hZ 18 7 (Nat.le_of_ble_eq_true rfl) (xc_18 q _ _) rfl hin_Pile t_Pile t_Pile_ok n_Pile (by decide) wd_125 rfl rfl rfl (Nat.le_of_ble_eq_true rfl) rfl d_Pile_removeTop_10 (fun H locs hZ => ?_)
  refine lv_aload_n hx_ hb_ d_Pile_removeTop_13 rfl (lv_at hl 0 rfl) ?_
  refine lv_dup hx_ hb_ d_Pile_removeTop_14 rfl ?_
  refine zz_get hC hK hZ 18 8 (Nat.le_of_ble_eq_true rfl) (xc_18 q _ _) rfl hin_Pile (by decide) wd_128 rfl rfl d_Pile_removeTop_15 ?_
  refine zz_topi (y := nI t) ht0 ?_
  refine lv_iconst (v := nI 1) hx_ hb_ d_Pile_removeTop_18 (by decide) ?_
  refine lv_isub hx_ hb_ d_Pile_removeTop_19 ?_
  refine zz_topi (y := nI (t - 1)) (pk_sub (by omega)) ?_
  refine zz_put hC hK hZ 18 8 (Nat.le_of_ble_eq_true rfl) (xc_18 q _ _) rfl hin_Pile t_Pile t_Pile_ok n_Pile (by decide) wd_128 rfl rfl rfl (Nat.le_of_ble_eq_true rfl) rfl d_Pile_removeTop_20 (fun H locs hZ => ?_)
  refine lv_aload_n hx_ hb_ d_Pile_removeTop_23 rfl (lv_at hl 0 rfl) ?_
  refine lv_aload_n hx_ hb_ d_Pile_removeTop_24 rfl (lv_at hl 0 rfl) ?_
  refine zz_get hC hK hZ 18 9 (Nat.le_of_ble_eq_true rfl) (xc_18 q _ _) rfl hin_Pile (by decide) wd_130 rfl rfl d_Pile_removeTop_25 ?_
  refine zz_topi (y := nI n) hn ?_
  refine lv_aload_n hx_ hb_ d_Pile_removeTop_28 rfl (lv_at hl 0 rfl) ?_
  refine zz_get hC hK hZ 18 7 (Nat.le_of_ble_eq_true rfl) (xc_18 q _ _) rfl hin_Pile (by decide) wd_125 rfl rfl d_Pile_removeTop_29 ?_
  refine zz_topi (y := nI (m - sz (m - 1))) rfl ?_
  refine va_mmin hx_ hb_ (hC.2.2.1.trans hl.1.symm) hC.2.2.2.1 (hC.2.2.2.2.1 _ wd_370) (hC.2.2.2.2.1 _ w_mmin_st) (hC.2.2.2.2.1 _ w_math_ini) (hC.2.2.2.2.1 _ w_mmin_code) (by decide) (Nat.le_of_ble_eq_true rfl) (Nat.zero_le _) (Nat.zero_le _) d_Pile_removeTop_32 ?_
  refine zz_topi (y := nI (min n (m - sz (m - 1)))) (zz_min (by omega) (by omega)) ?_
  refine zz_put hC hK hZ 18 9 (Nat.le_of_ble_eq_true rfl) (xc_18 q _ _) rfl hin_Pile t_Pile t_Pile_ok n_Pile (by decide) wd_130 rfl rfl rfl (Nat.le_of_ble_eq_true rfl) rfl d_Pile_removeTop_35 (fun H locs hZ => ?_)
  exact zz_vret hC hK hZ rfl d_Pile_removeTop_38 rfl
