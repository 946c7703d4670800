/-! The code of the top tree. Laid by wip/whole/prog/p13.py. -/
set_option maxHeartbeats 4000000 in
set_option maxRecDepth 100000 in
theorem c_Code_writeOperator (l : Launch) (q : xg_T) (S : zz_S) (op : Nat → Nat) (nu : Nat → Int32) (sz ht : Nat → Nat) (m t : Nat) (hP : xp_ok S op nu sz ht m t) (i e : Nat) (cs : cd_T) (la : Nat → Nat) (ht1 : t ≠ 0) (hi1 : (m - sz (m - 1)) ≤ i) (hi2 : i < m) (hk : xk_ok S cs) (hn : cs.1 < 160) (hla : ∀ c, (m - sz (m - 1)) ≤ c → c < i → S.1 39 c = nI (la c) ∧ la c < cs.1) : Met l y_Code_writeOperator (Cond.code y_Code_writeOperator b_Code_writeOperator 7 none :: zz_tbl) rm_Code_writeOperator (zz_Pc [.ref (zz_ad (xg_G q) 27), .ref (zz_ad (xg_G q) 18), .int (nI i), .int (nI e)] (xg_G q) S) (va_Qv (fun S1 => zz_off xk_X S S1 ∧ S1.1 27 14 = S.1 27 14 ∧ xk_ok S1 (cd_ap cs e (i - (m - sz (m - 1))) (op i) (nu i) (if 0 < zz_kd (op i) then la (tr_fa op sz i) else 1000) (if zz_kd (op i) = 2 then la (i - 1) else 1000))) (zz_P (xg_G q)) (zz_A (xg_G q))) 0 0 (zz_A (xg_G q)) := by
  refine zz_met (by decide) (Nat.le_of_ble_eq_true rfl) ?_
  intro p_ e_ s_ m_ bl_ mt_ c_ ls hC hK hZ hl
  have hC : zz_C p_ s_ m_ _ mt_ c_ b_Code_writeOperator 7 none "TreeCoverForge$Code" := hC
  have hx_ := hC.1
  have hb_ := hC.2.1
  have hl : lv_has ls 7 [(0, .ref (zz_ad (xg_G q) 27)), (1, .ref (zz_ad (xg_G q) 18)), (2, .int (nI i)), (3, .int (nI e))] := hl
  have hP0 := hP
  obtain ⟨hm, ht0, hm40, htm, harr, htr, hts⟩ := hP
  have hle := (htr (m - 1) (by omega)).2.2.1
  have hai := harr i hi2
  have hin := (tr_in htr (by omega) (show (m - sz (m - 1)) + sz (m - 1) = m by omega) hi1 hi2).2
  obtain ⟨t1, t2, t3, t4, t5, t6⟩ := htr i hi2
  have hkd := tr_kd (op i)
  refine lv_aload_n hx_ hb_ d_Code_writeOperator_0 rfl (lv_at hl 1 rfl) ?_
  refine zz_get hC hK hZ 18 0 (Nat.le_of_ble_eq_true rfl) (xc_18 q _ _) rfl hin_Pile (by decide) wd_116 rfl rfl d_Code_writeOperator_1 ?_
  refine lv_iload_n hx_ hb_ d_Code_writeOperator_4 rfl (lv_at hl 2 rfl) ?_
  refine zz_iald hC hK hZ 19 0 i (Nat.le_of_ble_eq_true rfl) (xc_19 q _ _) rfl rfl (by omega) (by decide) rfl d_Code_writeOperator_5 ?_
  refine zz_topi (y := nI (op i)) hai.1 ?_
  refine lv_istore (i := 4) (lv' := [(4, .int (nI (op i))), (0, .ref (zz_ad (xg_G q) 27)), (1, .ref (zz_ad (xg_G q) 18)), (2, .int (nI i)), (3, .int (nI e))]) hx_ hb_ d_Code_writeOperator_6 hl (by decide) rfl (fun ls hl => ?_)
  refine zz_garsN hC hK hZ wd_430 d_Code_writeOperator_8 ?_
  refine lv_iload hx_ hb_ d_Code_writeOperator_11 (lv_at hl 0 rfl) ?_
  refine zz_ari hC hK hZ (op i) rfl (by omega) d_Code_writeOperator_13 ?_
  refine lv_iconst (v := nI 1) hx_ hb_ d_Code_writeOperator_14 (by decide) ?_
  refine zz_jlt (tgt := 33) hC d_Code_writeOperator_15 (by decide) (by omega) (by omega) (fun h15 => ?_) (fun h15 => ?_)
  · refine lv_bipush (v := (-3)) hx_ hb_ d_Code_writeOperator_33 (by decide) ?_
    refine zz_topi (y := vw_s (if 0 < zz_kd (op i) then la (tr_fa op sz i) else 1000)) (by rw [if_neg (by omega)]; rfl) ?_
    refine lv_istore (i := 5) (lv' := [(5, .int (vw_s (if 0 < zz_kd (op i) then la (tr_fa op sz i) else 1000))), (4, .int (nI (op i))), (0, .ref (zz_ad (xg_G q) 27)), (1, .ref (zz_ad (xg_G q) 18)), (2, .int (nI i)), (3, .int (nI e))]) hx_ hb_ d_Code_writeOperator_35 hl (by decide) rfl (fun ls hl => ?_)
    refine zz_garsN hC hK hZ wd_430 d_Code_writeOperator_37 ?_
    refine lv_iload hx_ hb_ d_Code_writeOperator_40 (lv_at hl 1 rfl) ?_
    refine zz_ari hC hK hZ (op i) rfl (by omega) d_Code_writeOperator_42 ?_
    refine lv_iconst (v := nI 2) hx_ hb_ d_Code_writeOperator_43 (by decide) ?_
    refine zz_jne (tgt := 58) hC d_Code_writeOperator_44 (by decide) (by omega) (by omega) (fun h44 => ?_) (fun h44 => ?_)
    · refine lv_bipush (v := (-3)) hx_ hb_ d_Code_writeOperator_58 (by decide) ?_
      refine zz_topi (y := vw_s (if zz_kd (op i) = 2 then la (i - 1) else 1000)) (by rw [if_neg h44]; rfl) ?_
      refine lv_istore (i := 6) (lv' := [(6, .int (vw_s (if zz_kd (op i) = 2 then la (i - 1) else 1000))), (5, .int (vw_s (if 0 < zz_kd (op i) then la (tr_fa op sz i) else 1000))), (4, .int (nI (op i))), (0, .ref (zz_ad (xg_G q) 27)), (1, .ref (zz_ad (xg_G q) 18)), (2, .int (nI i)), (3, .int (nI e))]) hx_ hb_ d_Code_writeOperator_60 hl (by decide) rfl (fun ls hl => ?_)
      refine lv_aload_n hx_ hb_ d_Code_writeOperator_62 rfl (lv_at hl 3 rfl) ?_
      refine lv_iload_n hx_ hb_ d_Code_writeOperator_63 rfl (lv_at hl 6 rfl) ?_
      refine lv_iload_n hx_ hb_ d_Code_writeOperator_64 rfl (lv_at hl 5 rfl) ?_
      refine lv_aload_n hx_ hb_ d_Code_writeOperator_65 rfl (lv_at hl 4 rfl) ?_
      refine zz_ci (zz_rV (As := []) (rest := [.int (nI i), .int (nI e), .ref (zz_ad (xg_G q) 27)]) hC hK hZ 18 (c_Pile_topStart l q S op nu sz ht m t hP0) k_Pile_topStart (Nat.le_of_ble_eq_true rfl) (xc_18 q _ _) rfl wd_425 ⟨rfl, rfl, by decide, by decide⟩ rfl hl.1 rfl (Nat.le_of_ble_eq_true rfl) d_Code_writeOperator_66 ⟨Nat.zero_le _, Nat.zero_le _⟩) hZ (fun r66 S66 H locs hp66 hZ => ?_)
      obtain ⟨rfl, rfl⟩ := hp66
      rw [if_neg ht1]
      refine lv_isub hx_ hb_ d_Code_writeOperator_69 ?_
      refine zz_topi (y := nI (i - (m - sz (m - 1)))) (pk_sub (by omega)) ?_
      refine lv_iload hx_ hb_ d_Code_writeOperator_70 (lv_at hl 2 rfl) ?_
      refine lv_aload_n hx_ hb_ d_Code_writeOperator_72 rfl (lv_at hl 4 rfl) ?_
      refine zz_get hC hK hZ 18 1 (Nat.le_of_ble_eq_true rfl) (xc_18 q _ _) rfl hin_Pile (by decide) wd_118 rfl rfl d_Code_writeOperator_73 ?_
      refine lv_iload_n hx_ hb_ d_Code_writeOperator_76 rfl (lv_at hl 5 rfl) ?_
      refine zz_iald hC hK hZ 20 0 i (Nat.le_of_ble_eq_true rfl) (xc_20 q _ _) rfl rfl (by omega) (by decide) rfl d_Code_writeOperator_77 ?_
      refine zz_topi (y := nu i) hai.2.1 ?_
      refine lv_iload hx_ hb_ d_Code_writeOperator_78 (lv_at hl 1 rfl) ?_
      refine lv_iload hx_ hb_ d_Code_writeOperator_80 (lv_at hl 0 rfl) ?_
      refine zz_cv (zz_rV (As := [.int (nI e), .int (nI (i - (m - sz (m - 1)))), .int (nI (op i)), .int (nu i), .int (vw_s (if 0 < zz_kd (op i) then la (tr_fa op sz i) else 1000)), .int (vw_s (if zz_kd (op i) = 2 then la (i - 1) else 1000))]) (rest := []) hC hK hZ 27 (c_Code_append l q S cs e (i - (m - sz (m - 1))) (op i) (if 0 < zz_kd (op i) then la (tr_fa op sz i) else 1000) (if zz_kd (op i) = 2 then la (i - 1) else 1000) (nu i) hk hn (by
        split
        · rename_i h
          exact fun _ => (hla _ (hin h).2.2.1 (hin h).2.2.2).2
        · intro h; omega) (by
        split
        · rename_i h
          exact fun _ => (hla _ (hin (by omega)).1 (by have := (hin (by omega)).2.1; omega)).2
        · intro h; omega)) k_Code_append (Nat.le_of_ble_eq_true rfl) (xc_27 q _ _) rfl wd_436 ⟨rfl, rfl, by decide, by decide⟩ rfl hl.1 rfl (Nat.le_of_ble_eq_true rfl) d_Code_writeOperator_82 ⟨Nat.zero_le _, Nat.zero_le _⟩) hZ (fun S82 H locs hp82 hZ => ?_)
      exact zz_vret hC hK hZ rfl d_Code_writeOperator_85 hp82
    · have hki := hin (by omega)
      have hl2 := hla (i - 1) hki.1 (by omega)
      refine lv_aload_n hx_ hb_ d_Code_writeOperator_47 rfl (lv_at hl 2 rfl) ?_
      refine zz_get hC hK hZ 27 11 (Nat.le_of_ble_eq_true rfl) (xc_27 q _ _) rfl hin_Code (by decide) wd_192 rfl rfl d_Code_writeOperator_48 ?_
      refine lv_iload_n hx_ hb_ d_Code_writeOperator_51 rfl (lv_at hl 4 rfl) ?_
      refine lv_iconst (v := nI 1) hx_ hb_ d_Code_writeOperator_52 (by decide) ?_
      refine lv_isub hx_ hb_ d_Code_writeOperator_53 ?_
      refine zz_topi (y := nI (i - 1)) (pk_sub (by omega)) ?_
      refine zz_iald hC hK hZ 39 0 (i - 1) (Nat.le_of_ble_eq_true rfl) (xc_39 q _ _) rfl rfl (by omega) (by decide) rfl d_Code_writeOperator_54 ?_
      refine zz_topi (y := vw_s (if zz_kd (op i) = 2 then la (i - 1) else 1000)) (by rw [if_pos h44, vw_s_in (by omega)]; exact hl2.1) ?_
      refine lv_goto (tgt := 60) hx_ hb_ d_Code_writeOperator_55 (by decide) ?_
      refine lv_istore (i := 6) (lv' := [(6, .int (vw_s (if zz_kd (op i) = 2 then la (i - 1) else 1000))), (5, .int (vw_s (if 0 < zz_kd (op i) then la (tr_fa op sz i) else 1000))), (4, .int (nI (op i))), (0, .ref (zz_ad (xg_G q) 27)), (1, .ref (zz_ad (xg_G q) 18)), (2, .int (nI i)), (3, .int (nI e))]) hx_ hb_ d_Code_writeOperator_60 hl (by decide) rfl (fun ls hl => ?_)
      refine lv_aload_n hx_ hb_ d_Code_writeOperator_62 rfl (lv_at hl 3 rfl) ?_
      refine lv_iload_n hx_ hb_ d_Code_writeOperator_63 rfl (lv_at hl 6 rfl) ?_
      refine lv_iload_n hx_ hb_ d_Code_writeOperator_64 rfl (lv_at hl 5 rfl) ?_
      refine lv_aload_n hx_ hb_ d_Code_writeOperator_65 rfl (lv_at hl 4 rfl) ?_
      refine zz_ci (zz_rV (As := []) (rest := [.int (nI i), .int (nI e), .ref (zz_ad (xg_G q) 27)]) hC hK hZ 18 (c_Pile_topStart l q S op nu sz ht m t hP0) k_Pile_topStart (Nat.le_of_ble_eq_true rfl) (xc_18 q _ _) rfl wd_425 ⟨rfl, rfl, by decide, by decide⟩ rfl hl.1 rfl (Nat.le_of_ble_eq_true rfl) d_Code_writeOperator_66 ⟨Nat.zero_le _, Nat.zero_le _⟩) hZ (fun r66 S66 H locs hp66 hZ => ?_)
      obtain ⟨rfl, rfl⟩ := hp66
      rw [if_neg ht1]
      refine lv_isub hx_ hb_ d_Code_writeOperator_69 ?_
      refine zz_topi (y := nI (i - (m - sz (m - 1)))) (pk_sub (by omega)) ?_
      refine lv_iload hx_ hb_ d_Code_writeOperator_70 (lv_at hl 2 rfl) ?_
      refine lv_aload_n hx_ hb_ d_Code_writeOperator_72 rfl (lv_at hl 4 rfl) ?_
      refine zz_get hC hK hZ 18 1 (Nat.le_of_ble_eq_true rfl) (xc_18 q _ _) rfl hin_Pile (by decide) wd_118 rfl rfl d_Code_writeOperator_73 ?_
      refine lv_iload_n hx_ hb_ d_Code_writeOperator_76 rfl (lv_at hl 5 rfl) ?_
      refine zz_iald hC hK hZ 20 0 i (Nat.le_of_ble_eq_true rfl) (xc_20 q _ _) rfl rfl (by omega) (by decide) rfl d_Code_writeOperator_77 ?_
      refine zz_topi (y := nu i) hai.2.1 ?_
      refine lv_iload hx_ hb_ d_Code_writeOperator_78 (lv_at hl 1 rfl) ?_
      refine lv_iload hx_ hb_ d_Code_writeOperator_80 (lv_at hl 0 rfl) ?_
      refine zz_cv (zz_rV (As := [.int (nI e), .int (nI (i - (m - sz (m - 1)))), .int (nI (op i)), .int (nu i), .int (vw_s (if 0 < zz_kd (op i) then la (tr_fa op sz i) else 1000)), .int (vw_s (if zz_kd (op i) = 2 then la (i - 1) else 1000))]) (rest := []) hC hK hZ 27 (c_Code_append l q S cs e (i - (m - sz (m - 1))) (op i) (if 0 < zz_kd (op i) then la (tr_fa op sz i) else 1000) (if zz_kd (op i) = 2 then la (i - 1) else 1000) (nu i) hk hn (by
        split
        · rename_i h
          exact fun _ => (hla _ (hin h).2.2.1 (hin h).2.2.2).2
        · intro h; omega) (by
        split
        · rename_i h
          exact fun _ => (hla _ (hin (by omega)).1 (by have := (hin (by omega)).2.1; omega)).2
        · intro h; omega)) k_Code_append (Nat.le_of_ble_eq_true rfl) (xc_27 q _ _) rfl wd_436 ⟨rfl, rfl, by decide, by decide⟩ rfl hl.1 rfl (Nat.le_of_ble_eq_true rfl) d_Code_writeOperator_82 ⟨Nat.zero_le _, Nat.zero_le _⟩) hZ (fun S82 H locs hp82 hZ => ?_)
      exact zz_vret hC hK hZ rfl d_Code_writeOperator_85 hp82
  · have hki := hin (by omega)
    have hl1 := hla (tr_fa op sz i) hki.2.2.1 hki.2.2.2
    have hkb : zz_kd (op i) = 2 → sz (i - 1) ≤ i - 1 := fun h => by have := t6 h; omega
    refine lv_aload_n hx_ hb_ d_Code_writeOperator_18 rfl (lv_at hl 1 rfl) ?_
    refine zz_get hC hK hZ 27 11 (Nat.le_of_ble_eq_true rfl) (xc_27 q _ _) rfl hin_Code (by decide) wd_192 rfl rfl d_Code_writeOperator_19 ?_
    refine lv_aload_n hx_ hb_ d_Code_writeOperator_22 rfl (lv_at hl 2 rfl) ?_
    refine lv_iload_n hx_ hb_ d_Code_writeOperator_23 rfl (lv_at hl 3 rfl) ?_
    refine lv_iload hx_ hb_ d_Code_writeOperator_24 (lv_at hl 0 rfl) ?_
    refine zz_ci (zz_rV (As := [.int (nI i), .int (nI (op i))]) (rest := [.ref (zz_ad (xg_G q) 39)]) hC hK hZ 18 (c_Pile_firstKid l q S op nu sz ht m t hP0 i (op i) (by omega) (by omega) (by omega) hkb) k_Pile_firstKid (Nat.le_of_ble_eq_true rfl) (xc_18 q _ _) rfl wd_431 ⟨rfl, rfl, by decide, by decide⟩ rfl hl.1 rfl (Nat.le_of_ble_eq_true rfl) d_Code_writeOperator_26 ⟨Nat.zero_le _, Nat.zero_le _⟩) hZ (fun r26 S26 H locs hp26 hZ => ?_)
    obtain ⟨rfl, rfl⟩ := hp26
    refine zz_iald hC hK hZ 39 0 (tr_fa op sz i) (Nat.le_of_ble_eq_true rfl) (xc_39 q _ _) rfl rfl (by omega) (by decide) rfl d_Code_writeOperator_29 ?_
    refine zz_topi (y := vw_s (if 0 < zz_kd (op i) then la (tr_fa op sz i) else 1000)) (by rw [if_pos (by omega), vw_s_in (by omega)]; exact hl1.1) ?_
    refine lv_goto (tgt := 35) hx_ hb_ d_Code_writeOperator_30 (by decide) ?_
    refine lv_istore (i := 5) (lv' := [(5, .int (vw_s (if 0 < zz_kd (op i) then la (tr_fa op sz i) else 1000))), (4, .int (nI (op i))), (0, .ref (zz_ad (xg_G q) 27)), (1, .ref (zz_ad (xg_G q) 18)), (2, .int (nI i)), (3, .int (nI e))]) hx_ hb_ d_Code_writeOperator_35 hl (by decide) rfl (fun ls hl => ?_)
    refine zz_garsN hC hK hZ wd_430 d_Code_writeOperator_37 ?_
    refine lv_iload hx_ hb_ d_Code_writeOperator_40 (lv_at hl 1 rfl) ?_
    refine zz_ari hC hK hZ (op i) rfl (by omega) d_Code_writeOperator_42 ?_
    refine lv_iconst (v := nI 2) hx_ hb_ d_Code_writeOperator_43 (by decide) ?_
    refine zz_jne (tgt := 58) hC d_Code_writeOperator_44 (by decide) (by omega) (by omega) (fun h44 => ?_) (fun h44 => ?_)
    · refine lv_bipush (v := (-3)) hx_ hb_ d_Code_writeOperator_58 (by decide) ?_
      refine zz_topi (y := vw_s (if zz_kd (op i) = 2 then la (i - 1) else 1000)) (by rw [if_neg h44]; rfl) ?_
      refine lv_istore (i := 6) (lv' := [(6, .int (vw_s (if zz_kd (op i) = 2 then la (i - 1) else 1000))), (5, .int (vw_s (if 0 < zz_kd (op i) then la (tr_fa op sz i) else 1000))), (4, .int (nI (op i))), (0, .ref (zz_ad (xg_G q) 27)), (1, .ref (zz_ad (xg_G q) 18)), (2, .int (nI i)), (3, .int (nI e))]) hx_ hb_ d_Code_writeOperator_60 hl (by decide) rfl (fun ls hl => ?_)
      refine lv_aload_n hx_ hb_ d_Code_writeOperator_62 rfl (lv_at hl 3 rfl) ?_
      refine lv_iload_n hx_ hb_ d_Code_writeOperator_63 rfl (lv_at hl 6 rfl) ?_
      refine lv_iload_n hx_ hb_ d_Code_writeOperator_64 rfl (lv_at hl 5 rfl) ?_
      refine lv_aload_n hx_ hb_ d_Code_writeOperator_65 rfl (lv_at hl 4 rfl) ?_
      refine zz_ci (zz_rV (As := []) (rest := [.int (nI i), .int (nI e), .ref (zz_ad (xg_G q) 27)]) hC hK hZ 18 (c_Pile_topStart l q S op nu sz ht m t hP0) k_Pile_topStart (Nat.le_of_ble_eq_true rfl) (xc_18 q _ _) rfl wd_425 ⟨rfl, rfl, by decide, by decide⟩ rfl hl.1 rfl (Nat.le_of_ble_eq_true rfl) d_Code_writeOperator_66 ⟨Nat.zero_le _, Nat.zero_le _⟩) hZ (fun r66 S66 H locs hp66 hZ => ?_)
      obtain ⟨rfl, rfl⟩ := hp66
      rw [if_neg ht1]
      refine lv_isub hx_ hb_ d_Code_writeOperator_69 ?_
      refine zz_topi (y := nI (i - (m - sz (m - 1)))) (pk_sub (by omega)) ?_
      refine lv_iload hx_ hb_ d_Code_writeOperator_70 (lv_at hl 2 rfl) ?_
      refine lv_aload_n hx_ hb_ d_Code_writeOperator_72 rfl (lv_at hl 4 rfl) ?_
      refine zz_get hC hK hZ 18 1 (Nat.le_of_ble_eq_true rfl) (xc_18 q _ _) rfl hin_Pile (by decide) wd_118 rfl rfl d_Code_writeOperator_73 ?_
      refine lv_iload_n hx_ hb_ d_Code_writeOperator_76 rfl (lv_at hl 5 rfl) ?_
      refine zz_iald hC hK hZ 20 0 i (Nat.le_of_ble_eq_true rfl) (xc_20 q _ _) rfl rfl (by omega) (by decide) rfl d_Code_writeOperator_77 ?_
      refine zz_topi (y := nu i) hai.2.1 ?_
      refine lv_iload hx_ hb_ d_Code_writeOperator_78 (lv_at hl 1 rfl) ?_
      refine lv_iload hx_ hb_ d_Code_writeOperator_80 (lv_at hl 0 rfl) ?_
      refine zz_cv (zz_rV (As := [.int (nI e), .int (nI (i - (m - sz (m - 1)))), .int (nI (op i)), .int (nu i), .int (vw_s (if 0 < zz_kd (op i) then la (tr_fa op sz i) else 1000)), .int (vw_s (if zz_kd (op i) = 2 then la (i - 1) else 1000))]) (rest := []) hC hK hZ 27 (c_Code_append l q S cs e (i - (m - sz (m - 1))) (op i) (if 0 < zz_kd (op i) then la (tr_fa op sz i) else 1000) (if zz_kd (op i) = 2 then la (i - 1) else 1000) (nu i) hk hn (by
        split
        · rename_i h
          exact fun _ => (hla _ (hin h).2.2.1 (hin h).2.2.2).2
        · intro h; omega) (by
        split
        · rename_i h
          exact fun _ => (hla _ (hin (by omega)).1 (by have := (hin (by omega)).2.1; omega)).2
        · intro h; omega)) k_Code_append (Nat.le_of_ble_eq_true rfl) (xc_27 q _ _) rfl wd_436 ⟨rfl, rfl, by decide, by decide⟩ rfl hl.1 rfl (Nat.le_of_ble_eq_true rfl) d_Code_writeOperator_82 ⟨Nat.zero_le _, Nat.zero_le _⟩) hZ (fun S82 H locs hp82 hZ => ?_)
      exact zz_vret hC hK hZ rfl d_Code_writeOperator_85 hp82
    · have hki := hin (by omega)
      have hl2 := hla (i - 1) hki.1 (by omega)
      refine lv_aload_n hx_ hb_ d_Code_writeOperator_47 rfl (lv_at hl 2 rfl) ?_
      refine zz_get hC hK hZ 27 11 (Nat.le_of_ble_eq_true rfl) (xc_27 q _ _) rfl hin_Code (by decide) wd_192 rfl rfl d_Code_writeOperator_48 ?_
      refine lv_iload_n hx_ hb_ d_Code_writeOperator_51 rfl (lv_at hl 4 rfl) ?_
      refine lv_iconst (v := nI 1) hx_ hb_ d_Code_writeOperator_52 (by decide) ?_
      refine lv_isub hx_ hb_ d_Code_writeOperator_53 ?_
      refine zz_topi (y := nI (i - 1)) (pk_sub (by omega)) ?_
      refine zz_iald hC hK hZ 39 0 (i - 1) (Nat.le_of_ble_eq_true rfl) (xc_39 q _ _) rfl rfl (by omega) (by decide) rfl d_Code_writeOperator_54 ?_
      refine zz_topi (y := vw_s (if zz_kd (op i) = 2 then la (i - 1) else 1000)) (by rw [if_pos h44, vw_s_in (by omega)]; exact hl2.1) ?_
      refine lv_goto (tgt := 60) hx_ hb_ d_Code_writeOperator_55 (by decide) ?_
      refine lv_istore (i := 6) (lv' := [(6, .int (vw_s (if zz_kd (op i) = 2 then la (i - 1) else 1000))), (5, .int (vw_s (if 0 < zz_kd (op i) then la (tr_fa op sz i) else 1000))), (4, .int (nI (op i))), (0, .ref (zz_ad (xg_G q) 27)), (1, .ref (zz_ad (xg_G q) 18)), (2, .int (nI i)), (3, .int (nI e))]) hx_ hb_ d_Code_writeOperator_60 hl (by decide) rfl (fun ls hl => ?_)
      refine lv_aload_n hx_ hb_ d_Code_writeOperator_62 rfl (lv_at hl 3 rfl) ?_
      refine lv_iload_n hx_ hb_ d_Code_writeOperator_63 rfl (lv_at hl 6 rfl) ?_
      refine lv_iload_n hx_ hb_ d_Code_writeOperator_64 rfl (lv_at hl 5 rfl) ?_
      refine lv_aload_n hx_ hb_ d_Code_writeOperator_65 rfl (lv_at hl 4 rfl) ?_
      refine zz_ci (zz_rV (As := []) (rest := [.int (nI i), .int (nI e), .ref (zz_ad (xg_G q) 27)]) hC hK hZ 18 (c_Pile_topStart l q S op nu sz ht m t hP0) k_Pile_topStart (Nat.le_of_ble_eq_true rfl) (xc_18 q _ _) rfl wd_425 ⟨rfl, rfl, by decide, by decide⟩ rfl hl.1 rfl (Nat.le_of_ble_eq_true rfl) d_Code_writeOperator_66 ⟨Nat.zero_le _, Nat.zero_le _⟩) hZ (fun r66 S66 H locs hp66 hZ => ?_)
      obtain ⟨rfl, rfl⟩ := hp66
      rw [if_neg ht1]
      refine lv_isub hx_ hb_ d_Code_writeOperator_69 ?_
      refine zz_topi (y := nI (i - (m - sz (m - 1)))) (pk_sub (by omega)) ?_
      refine lv_iload hx_ hb_ d_Code_writeOperator_70 (lv_at hl 2 rfl) ?_
      refine lv_aload_n hx_ hb_ d_Code_writeOperator_72 rfl (lv_at hl 4 rfl) ?_
      refine zz_get hC hK hZ 18 1 (Nat.le_of_ble_eq_true rfl) (xc_18 q _ _) rfl hin_Pile (by decide) wd_118 rfl rfl d_Code_writeOperator_73 ?_
      refine lv_iload_n hx_ hb_ d_Code_writeOperator_76 rfl (lv_at hl 5 rfl) ?_
      refine zz_iald hC hK hZ 20 0 i (Nat.le_of_ble_eq_true rfl) (xc_20 q _ _) rfl rfl (by omega) (by decide) rfl d_Code_writeOperator_77 ?_
      refine zz_topi (y := nu i) hai.2.1 ?_
      refine lv_iload hx_ hb_ d_Code_writeOperator_78 (lv_at hl 1 rfl) ?_
      refine lv_iload hx_ hb_ d_Code_writeOperator_80 (lv_at hl 0 rfl) ?_
      refine zz_cv (zz_rV (As := [.int (nI e), .int (nI (i - (m - sz (m - 1)))), .int (nI (op i)), .int (nu i), .int (vw_s (if 0 < zz_kd (op i) then la (tr_fa op sz i) else 1000)), .int (vw_s (if zz_kd (op i) = 2 then la (i - 1) else 1000))]) (rest := []) hC hK hZ 27 (c_Code_append l q S cs e (i - (m - sz (m - 1))) (op i) (if 0 < zz_kd (op i) then la (tr_fa op sz i) else 1000) (if zz_kd (op i) = 2 then la (i - 1) else 1000) (nu i) hk hn (by
        split
        · rename_i h
          exact fun _ => (hla _ (hin h).2.2.1 (hin h).2.2.2).2
        · intro h; omega) (by
        split
        · rename_i h
          exact fun _ => (hla _ (hin (by omega)).1 (by have := (hin (by omega)).2.1; omega)).2
        · intro h; omega)) k_Code_append (Nat.le_of_ble_eq_true rfl) (xc_27 q _ _) rfl wd_436 ⟨rfl, rfl, by decide, by decide⟩ rfl hl.1 rfl (Nat.le_of_ble_eq_true rfl) d_Code_writeOperator_82 ⟨Nat.zero_le _, Nat.zero_le _⟩) hZ (fun S82 H locs hp82 hZ => ?_)
      exact zz_vret hC hK hZ rfl d_Code_writeOperator_85 hp82
set_option maxHeartbeats 4000000 in
set_option maxRecDepth 100000 in
theorem c_Code_write (l : Launch) (q : xg_T) (S : zz_S) (op : Nat → Nat) (nu : Nat → Int32) (sz ht : Nat → Nat) (m t : Nat) (hP : xp_ok S op nu sz ht m t) (rl : mx_R) (R : Nat) (sz1 : Nat → Nat) (nb : Nat → Nat → Nat) (hB : xb_ok S rl R sz1 nb) (gs qs : Nat → Nat → Nat) (hQ : xq_ok S rl R op sz gs qs m) (ht1 : t ≠ 0) (hcov : gs (m - 1) 0 < mx_far) : Met l y_Code_write (Cond.code y_Code_write b_Code_write 6 none :: zz_tbl) rm_Code_write (zz_Pc [.ref (zz_ad (xg_G q) 27), .ref (zz_ad (xg_G q) 1), .ref (zz_ad (xg_G q) 18)] (xg_G q) S) (va_Qv (fun S1 => zz_off wr_X S S1 ∧ S1.1 27 14 = S.1 27 14 ∧ ∃ Wk, wk_ok rl op sz gs qs Wk (m - sz (m - 1)) m ∧ xk_ok S1 (wr_st rl op nu sz qs Wk (m - sz (m - 1)) (sz (m - 1))).1) (zz_P (xg_G q)) (zz_A (xg_G q))) 0 0 (zz_A (xg_G q)) := by
  refine zz_met (by decide) (Nat.le_of_ble_eq_true rfl) ?_
  intro p_ e_ s_ m_ bl_ mt_ c_ ls hC hK hZ hl
  have hC : zz_C p_ s_ m_ _ mt_ c_ b_Code_write 6 none "TreeCoverForge$Code" := hC
  have hx_ := hC.1
  have hb_ := hC.2.1
  have hl : lv_has ls 6 [(0, .ref (zz_ad (xg_G q) 27)), (1, .ref (zz_ad (xg_G q) 1)), (2, .ref (zz_ad (xg_G q) 18))] := hl
  have hP0 := hP
  obtain ⟨hm, ht0, hm40, htm, harr, htr, hts⟩ := hP
  have hok := hB.2.2.1
  have hle := (htr (m - 1) (by omega)).2.2.1
  have hle1 := (htr (m - 1) (by omega)).2.1
  have hfm : (m - sz (m - 1)) + sz (m - 1) = m := by omega
  have hlab : ∀ i, (m - sz (m - 1)) ≤ i → i < m → xq_lab rl R op sz gs qs i := fun i _ h => (hQ i h).2
  have L54_ : ∀ (n_ : Nat) (i : Nat) (y : Nat) (Si : zz_S) (Wk : Nat → Nat) (hk93 : ∀ (Si : zz_S) (H : Heap) (locs : List Loc) (ls : Array Slot) (hi : (m - sz (m - 1)) ≤ i ∧ i < m) (ho : zz_off wr_X S Si) (h14 : Si.1 27 14 = S.1 27 14) (hW : wk_ok rl op sz gs qs Wk (m - sz (m - 1)) m) (hk38 : ∀ c, (m - sz (m - 1)) ≤ c → c < m → Si.1 38 c = nI (Wk c)) (hla : ∀ c, (m - sz (m - 1)) ≤ c → c < i → Si.1 39 c = nI ((wr_st rl op nu sz qs Wk (m - sz (m - 1)) (i - (m - sz (m - 1)))).2 c)) (hkA : xk_ok Si (cd_ch (i - (m - sz (m - 1))) (wr_rv rl qs Wk i) (wr_op rl op nu sz qs Wk (m - sz (m - 1)) i))) (hZ : zz_Z (xg_G q) Si s_.heap H locs) (hl : lv_has ls 6 [(0, .ref (zz_ad (xg_G q) 27)), (1, .ref (zz_ad (xg_G q) 1)), (2, .ref (zz_ad (xg_G q) 18)), (3, .int (nI i))]), W p_ l e_ rm_Code_write s_ m_ ([.ref (zz_ad (xg_G q) 27), .ref (zz_ad (xg_G q) 1), .ref (zz_ad (xg_G q) 18)] : List Value).toArray bl_ mt_ c_ H locs 0 0 (MQ bl_ (va_Qv (fun S1 => zz_off wr_X S S1 ∧ S1.1 27 14 = S.1 27 14 ∧ ∃ Wk, wk_ok rl op sz gs qs Wk (m - sz (m - 1)) m ∧ xk_ok S1 (wr_st rl op nu sz qs Wk (m - sz (m - 1)) (sz (m - 1))).1) (zz_P (xg_G q)) (zz_A (xg_G q))) ([.ref (zz_ad (xg_G q) 27), .ref (zz_ad (xg_G q) 1), .ref (zz_ad (xg_G q) 18)] : List Value).toArray s_ 0 0 (zz_A (xg_G q))) (F0 m_ 93 ls [])) (H : Heap) (locs : List Loc) (ls : Array Slot) (hi : (m - sz (m - 1)) ≤ i ∧ i < m) (hy : y + 1 ≤ (wr_path rl qs Wk i).length) (ho : zz_off wr_X S Si) (h14 : Si.1 27 14 = S.1 27 14) (hW : wk_ok rl op sz gs qs Wk (m - sz (m - 1)) m) (hk38 : ∀ c, (m - sz (m - 1)) ≤ c → c < m → Si.1 38 c = nI (Wk c)) (hla : ∀ c, (m - sz (m - 1)) ≤ c → c < i → Si.1 39 c = nI ((wr_st rl op nu sz qs Wk (m - sz (m - 1)) (i - (m - sz (m - 1)))).2 c)) (hp : ∀ j, j < (wr_path rl qs Wk i).length → Si.1 40 j = nI ((wr_path rl qs Wk i).getD j 0)) (hkC : xk_ok Si (cd_ch (i - (m - sz (m - 1))) ((wr_rv rl qs Wk i).take ((wr_path rl qs Wk i).length - 1 - y)) (wr_op rl op nu sz qs Wk (m - sz (m - 1)) i))) (hZ : zz_Z (xg_G q) Si s_.heap H locs) (hl : lv_has ls 6 [(0, .ref (zz_ad (xg_G q) 27)), (1, .ref (zz_ad (xg_G q) 1)), (2, .ref (zz_ad (xg_G q) 18)), (3, .int (nI i)), (4, .int (nI ((wr_path rl qs Wk i).length))), (5, .int (nI y - 1))]) (hn_ : y = n_), W p_ l e_ rm_Code_write s_ m_ ([.ref (zz_ad (xg_G q) 27), .ref (zz_ad (xg_G q) 1), .ref (zz_ad (xg_G q) 18)] : List Value).toArray bl_ mt_ c_ H locs 0 0 (MQ bl_ (va_Qv (fun S1 => zz_off wr_X S S1 ∧ S1.1 27 14 = S.1 27 14 ∧ ∃ Wk, wk_ok rl op sz gs qs Wk (m - sz (m - 1)) m ∧ xk_ok S1 (wr_st rl op nu sz qs Wk (m - sz (m - 1)) (sz (m - 1))).1) (zz_P (xg_G q)) (zz_A (xg_G q))) ([.ref (zz_ad (xg_G q) 27), .ref (zz_ad (xg_G q) 1), .ref (zz_ad (xg_G q) 18)] : List Value).toArray s_ 0 0 (zz_A (xg_G q))) (F0 m_ 54 ls []) := by
    intro n_
    induction n_ using Nat.strongRecOn with
    | ind n_ ih_ =>
      intro i y Si Wk hk93 H locs ls hi hy ho h14 hW hk38 hla hp hkC hZ hl hn_
      have hPi : xp_ok Si op nu sz ht m t := by
        unfold xp_ok
        rw [(ho 18 (by omega)).1, (ho 19 (by omega)).1, (ho 20 (by omega)).1, (ho 21 (by omega)).1, (ho 22 (by omega)).1]
        exact hP0
      have hBi := xb_keep hB (fun c h1 h2 => (ho c (by omega)).1)
      obtain ⟨i1, i2, i3, i4⟩ := wr_inv (nu := nu) hok htr (by omega) hfm hlab hW (i - (m - sz (m - 1))) (by omega)
      obtain ⟨w1, w2, w3, w4⟩ := hW.2 i hi.1 hi.2
      obtain ⟨q1, q2, q3, q4, q5, q6, q7⟩ := wr_ok hok (hlab i hi.1 hi.2) w1 w2
      have hpl := wr_part (rl := rl) (op := op) (nu := nu) (sz := sz) (fm := (m - sz (m - 1))) y hy
      refine lv_iload hx_ hb_ d_Code_write_54 (lv_at hl 5 rfl) ?_
      refine zz_plt (tgt := 93) hC d_Code_write_56 (by decide) (by omega) (fun h56 => ?_) (fun h56 => ?_)
      · exact hk93 Si  _ _ _ hi ho h14 hW hk38 hla (by rw [h56, wr_all] at hkC; exact hkC) hZ (lv_sub hl [0, 1, 2, 3] rfl)
      · refine lv_aload_n hx_ hb_ d_Code_write_59 rfl (lv_at hl 0 rfl) ?_
        refine lv_aload_n hx_ hb_ d_Code_write_60 rfl (lv_at hl 0 rfl) ?_
        refine zz_get hC hK hZ 27 12 (Nat.le_of_ble_eq_true rfl) (xc_27 q _ _) rfl hin_Code (by decide) wd_193 rfl rfl d_Code_write_61 ?_
        refine lv_iload hx_ hb_ d_Code_write_64 (lv_at hl 5 rfl) ?_
        refine zz_topi (y := nI (y - 1)) (zz_prd h56) ?_
        refine zz_iald hC hK hZ 40 0 (y - 1) (Nat.le_of_ble_eq_true rfl) (xc_40 q _ _) rfl rfl (by omega) (by decide) rfl d_Code_write_66 ?_
        refine zz_topi (y := nI ((wr_path rl qs Wk i).getD (y - 1) 0)) (hp _ (by omega)) ?_
        refine lv_iload_n hx_ hb_ d_Code_write_67 rfl (lv_at hl 3 rfl) ?_
        refine lv_aload_n hx_ hb_ d_Code_write_68 rfl (lv_at hl 2 rfl) ?_
        refine zz_ci (zz_rV (As := []) (rest := [.int (nI i), .int (nI ((wr_path rl qs Wk i).getD (y - 1) 0)), .ref (zz_ad (xg_G q) 27)]) hC hK hZ 18 (c_Pile_topStart l q Si op nu sz ht m t hPi) k_Pile_topStart (Nat.le_of_ble_eq_true rfl) (xc_18 q _ _) rfl wd_425 ⟨rfl, rfl, by decide, by decide⟩ rfl hl.1 rfl (Nat.le_of_ble_eq_true rfl) d_Code_write_69 ⟨Nat.zero_le _, Nat.zero_le _⟩) hZ (fun r69 S69 H locs hp69 hZ => ?_)
        obtain ⟨rfl, rfl⟩ := hp69
        rw [if_neg ht1]
        refine lv_isub hx_ hb_ d_Code_write_72 ?_
        refine zz_topi (y := nI (i - (m - sz (m - 1)))) (pk_sub (by omega)) ?_
        refine lv_bipush (v := nI 8) hx_ hb_ d_Code_write_73 (by decide) ?_
        refine lv_iconst (v := nI 0) hx_ hb_ d_Code_write_75 (by decide) ?_
        refine zz_topi (y := 0) nI_0 ?_
        refine lv_aload_n hx_ hb_ d_Code_write_76 rfl (lv_at hl 0 rfl) ?_
        refine zz_get hC hK hZ 27 13 (Nat.le_of_ble_eq_true rfl) (xc_27 q _ _) rfl hin_Code (by decide) wd_194 rfl rfl d_Code_write_77 ?_
        refine zz_topi (y := nI ((cd_ch (i - (m - sz (m - 1))) ((wr_rv rl qs Wk i).take ((wr_path rl qs Wk i).length - 1 - y)) (wr_op rl op nu sz qs Wk (m - sz (m - 1)) i)).1)) hkC.1 ?_
        refine lv_iconst (v := nI 1) hx_ hb_ d_Code_write_80 (by decide) ?_
        refine lv_isub hx_ hb_ d_Code_write_81 ?_
        refine zz_topi (y := vw_s ((cd_ch (i - (m - sz (m - 1))) ((wr_rv rl qs Wk i).take ((wr_path rl qs Wk i).length - 1 - y)) (wr_op rl op nu sz qs Wk (m - sz (m - 1)) i)).1 - 1)) ((pk_sub (by omega)).trans (vw_s_in (by omega)).symm) ?_
        refine lv_bipush (v := (-3)) hx_ hb_ d_Code_write_82 (by decide) ?_
        refine zz_topi (y := vw_s 1000) rfl ?_
        refine zz_cv (zz_rV (As := [.int (nI ((wr_path rl qs Wk i).getD (y - 1) 0)), .int (nI (i - (m - sz (m - 1)))), .int (nI 8), .int 0, .int (vw_s ((cd_ch (i - (m - sz (m - 1))) ((wr_rv rl qs Wk i).take ((wr_path rl qs Wk i).length - 1 - y)) (wr_op rl op nu sz qs Wk (m - sz (m - 1)) i)).1 - 1)), .int (vw_s 1000)]) (rest := []) hC hK hZ 27 (c_Code_append l q Si (cd_ch (i - (m - sz (m - 1))) ((wr_rv rl qs Wk i).take ((wr_path rl qs Wk i).length - 1 - y)) (wr_op rl op nu sz qs Wk (m - sz (m - 1)) i)) ((wr_path rl qs Wk i).getD (y - 1) 0) (i - (m - sz (m - 1))) 8 ((cd_ch (i - (m - sz (m - 1))) ((wr_rv rl qs Wk i).take ((wr_path rl qs Wk i).length - 1 - y)) (wr_op rl op nu sz qs Wk (m - sz (m - 1)) i)).1 - 1) 1000 0 hkC (by omega) (fun _ => by omega) (fun h => absurd h (by omega))) k_Code_append (Nat.le_of_ble_eq_true rfl) (xc_27 q _ _) rfl wd_436 ⟨rfl, rfl, by decide, by decide⟩ rfl hl.1 rfl (Nat.le_of_ble_eq_true rfl) d_Code_write_84 ⟨Nat.zero_le _, Nat.zero_le _⟩) hZ (fun S84 H locs hp84 hZ => ?_)
        refine lv_iinc (k := 5) (v := nI (y - 1) - 1) (lv' := [(5, .int (nI (y - 1) - 1)), (0, .ref (zz_ad (xg_G q) 27)), (1, .ref (zz_ad (xg_G q) 1)), (2, .ref (zz_ad (xg_G q) 18)), (3, .int (nI i)), (4, .int (nI ((wr_path rl qs Wk i).length)))]) hx_ hb_ d_Code_write_87 hl rfl (zz_prd1 (by omega)) (by decide) rfl (fun ls hl => ?_)
        refine lv_goto (tgt := 54) hx_ hb_ d_Code_write_90 (by decide) ?_
        exact ih_ _ (by omega) i (y - 1) S84 Wk hk93 _ _ _ hi (by omega) (zz_off_tr ho (zz_off_mono hp84.1 (fun c h => Or.inl h))) (hp84.2.1.trans h14) hW (fun c h1 h2 => by rw [(hp84.1 38 (by omega)).1]; exact hk38 c h1 h2) (fun c h1 h2 => by rw [(hp84.1 39 (by omega)).1]; exact hla c h1 h2) (fun j hj => by rw [(hp84.1 40 (by omega)).1]; exact hp j hj) (by rw [wr_more (by omega) hy]; exact hp84.2.2) hZ (lv_sub hl [1, 2, 3, 4, 5, 0] rfl) rfl
  have L54 : ∀ (i : Nat) (y : Nat) (Si : zz_S) (Wk : Nat → Nat) (hk93 : ∀ (Si : zz_S) (H : Heap) (locs : List Loc) (ls : Array Slot) (hi : (m - sz (m - 1)) ≤ i ∧ i < m) (ho : zz_off wr_X S Si) (h14 : Si.1 27 14 = S.1 27 14) (hW : wk_ok rl op sz gs qs Wk (m - sz (m - 1)) m) (hk38 : ∀ c, (m - sz (m - 1)) ≤ c → c < m → Si.1 38 c = nI (Wk c)) (hla : ∀ c, (m - sz (m - 1)) ≤ c → c < i → Si.1 39 c = nI ((wr_st rl op nu sz qs Wk (m - sz (m - 1)) (i - (m - sz (m - 1)))).2 c)) (hkA : xk_ok Si (cd_ch (i - (m - sz (m - 1))) (wr_rv rl qs Wk i) (wr_op rl op nu sz qs Wk (m - sz (m - 1)) i))) (hZ : zz_Z (xg_G q) Si s_.heap H locs) (hl : lv_has ls 6 [(0, .ref (zz_ad (xg_G q) 27)), (1, .ref (zz_ad (xg_G q) 1)), (2, .ref (zz_ad (xg_G q) 18)), (3, .int (nI i))]), W p_ l e_ rm_Code_write s_ m_ ([.ref (zz_ad (xg_G q) 27), .ref (zz_ad (xg_G q) 1), .ref (zz_ad (xg_G q) 18)] : List Value).toArray bl_ mt_ c_ H locs 0 0 (MQ bl_ (va_Qv (fun S1 => zz_off wr_X S S1 ∧ S1.1 27 14 = S.1 27 14 ∧ ∃ Wk, wk_ok rl op sz gs qs Wk (m - sz (m - 1)) m ∧ xk_ok S1 (wr_st rl op nu sz qs Wk (m - sz (m - 1)) (sz (m - 1))).1) (zz_P (xg_G q)) (zz_A (xg_G q))) ([.ref (zz_ad (xg_G q) 27), .ref (zz_ad (xg_G q) 1), .ref (zz_ad (xg_G q) 18)] : List Value).toArray s_ 0 0 (zz_A (xg_G q))) (F0 m_ 93 ls [])) (H : Heap) (locs : List Loc) (ls : Array Slot) (hi : (m - sz (m - 1)) ≤ i ∧ i < m) (hy : y + 1 ≤ (wr_path rl qs Wk i).length) (ho : zz_off wr_X S Si) (h14 : Si.1 27 14 = S.1 27 14) (hW : wk_ok rl op sz gs qs Wk (m - sz (m - 1)) m) (hk38 : ∀ c, (m - sz (m - 1)) ≤ c → c < m → Si.1 38 c = nI (Wk c)) (hla : ∀ c, (m - sz (m - 1)) ≤ c → c < i → Si.1 39 c = nI ((wr_st rl op nu sz qs Wk (m - sz (m - 1)) (i - (m - sz (m - 1)))).2 c)) (hp : ∀ j, j < (wr_path rl qs Wk i).length → Si.1 40 j = nI ((wr_path rl qs Wk i).getD j 0)) (hkC : xk_ok Si (cd_ch (i - (m - sz (m - 1))) ((wr_rv rl qs Wk i).take ((wr_path rl qs Wk i).length - 1 - y)) (wr_op rl op nu sz qs Wk (m - sz (m - 1)) i))) (hZ : zz_Z (xg_G q) Si s_.heap H locs) (hl : lv_has ls 6 [(0, .ref (zz_ad (xg_G q) 27)), (1, .ref (zz_ad (xg_G q) 1)), (2, .ref (zz_ad (xg_G q) 18)), (3, .int (nI i)), (4, .int (nI ((wr_path rl qs Wk i).length))), (5, .int (nI y - 1))]), W p_ l e_ rm_Code_write s_ m_ ([.ref (zz_ad (xg_G q) 27), .ref (zz_ad (xg_G q) 1), .ref (zz_ad (xg_G q) 18)] : List Value).toArray bl_ mt_ c_ H locs 0 0 (MQ bl_ (va_Qv (fun S1 => zz_off wr_X S S1 ∧ S1.1 27 14 = S.1 27 14 ∧ ∃ Wk, wk_ok rl op sz gs qs Wk (m - sz (m - 1)) m ∧ xk_ok S1 (wr_st rl op nu sz qs Wk (m - sz (m - 1)) (sz (m - 1))).1) (zz_P (xg_G q)) (zz_A (xg_G q))) ([.ref (zz_ad (xg_G q) 27), .ref (zz_ad (xg_G q) 1), .ref (zz_ad (xg_G q) 18)] : List Value).toArray s_ 0 0 (zz_A (xg_G q))) (F0 m_ 54 ls []) := fun i y Si Wk hk93 H locs ls hi hy ho h14 hW hk38 hla hp hkC hZ hl => L54_ _ i y Si Wk hk93 H locs ls hi hy ho h14 hW hk38 hla hp hkC hZ hl rfl
  have L16_ : ∀ (n_ : Nat) (i : Nat) (Si : zz_S) (Wk : Nat → Nat) (H : Heap) (locs : List Loc) (ls : Array Slot) (hi : (m - sz (m - 1)) ≤ i ∧ i ≤ m) (ho : zz_off wr_X S Si) (h14 : Si.1 27 14 = S.1 27 14) (hW : wk_ok rl op sz gs qs Wk (m - sz (m - 1)) m) (hk38 : ∀ c, (m - sz (m - 1)) ≤ c → c < m → Si.1 38 c = nI (Wk c)) (hla : ∀ c, (m - sz (m - 1)) ≤ c → c < i → Si.1 39 c = nI ((wr_st rl op nu sz qs Wk (m - sz (m - 1)) (i - (m - sz (m - 1)))).2 c)) (hk : xk_ok Si (wr_st rl op nu sz qs Wk (m - sz (m - 1)) (i - (m - sz (m - 1)))).1) (hZ : zz_Z (xg_G q) Si s_.heap H locs) (hl : lv_has ls 6 [(0, .ref (zz_ad (xg_G q) 27)), (1, .ref (zz_ad (xg_G q) 1)), (2, .ref (zz_ad (xg_G q) 18)), (3, .int (nI i))]) (hn_ : m - i = n_), W p_ l e_ rm_Code_write s_ m_ ([.ref (zz_ad (xg_G q) 27), .ref (zz_ad (xg_G q) 1), .ref (zz_ad (xg_G q) 18)] : List Value).toArray bl_ mt_ c_ H locs 0 0 (MQ bl_ (va_Qv (fun S1 => zz_off wr_X S S1 ∧ S1.1 27 14 = S.1 27 14 ∧ ∃ Wk, wk_ok rl op sz gs qs Wk (m - sz (m - 1)) m ∧ xk_ok S1 (wr_st rl op nu sz qs Wk (m - sz (m - 1)) (sz (m - 1))).1) (zz_P (xg_G q)) (zz_A (xg_G q))) ([.ref (zz_ad (xg_G q) 27), .ref (zz_ad (xg_G q) 1), .ref (zz_ad (xg_G q) 18)] : List Value).toArray s_ 0 0 (zz_A (xg_G q))) (F0 m_ 16 ls []) := by
    intro n_
    induction n_ using Nat.strongRecOn with
    | ind n_ ih_ =>
      intro i Si Wk H locs ls hi ho h14 hW hk38 hla hk hZ hl hn_
      have hPi : xp_ok Si op nu sz ht m t := by
        unfold xp_ok
        rw [(ho 18 (by omega)).1, (ho 19 (by omega)).1, (ho 20 (by omega)).1, (ho 21 (by omega)).1, (ho 22 (by omega)).1]
        exact hP0
      have hBi := xb_keep hB (fun c h1 h2 => (ho c (by omega)).1)
      refine lv_iload_n hx_ hb_ d_Code_write_16 rfl (lv_at hl 3 rfl) ?_
      refine lv_aload_n hx_ hb_ d_Code_write_17 rfl (lv_at hl 2 rfl) ?_
      refine zz_get hC hK hZ 18 7 (Nat.le_of_ble_eq_true rfl) (xc_18 q _ _) rfl hin_Pile (by decide) wd_126 rfl rfl d_Code_write_18 ?_
      refine zz_topi (y := nI m) hPi.1 ?_
      refine zz_jge (tgt := 111) hC d_Code_write_21 (by decide) (by omega) (by omega) (fun h21 => ?_) (fun h21 => ?_)
      · exact zz_vret hC hK hZ rfl d_Code_write_111 ⟨ho, h14, Wk, hW, by
          have e9 : i - (m - sz (m - 1)) = sz (m - 1) := by omega
          rw [e9] at hk
          exact hk⟩
      · obtain ⟨i1, i2, i3, i4⟩ := wr_inv (nu := nu) hok htr (by omega) hfm hlab hW (i - (m - sz (m - 1))) (by omega)
        obtain ⟨w1, w2, w3, w4⟩ := hW.2 i hi.1 (by omega)
        obtain ⟨q1, q2, q3, q4, q5, q6, q7⟩ := wr_ok hok (hlab i hi.1 (by omega)) w1 w2
        refine lv_aload_n hx_ hb_ d_Code_write_24 rfl (lv_at hl 0 rfl) ?_
        refine lv_aload_n hx_ hb_ d_Code_write_25 rfl (lv_at hl 1 rfl) ?_
        refine lv_aload_n hx_ hb_ d_Code_write_26 rfl (lv_at hl 2 rfl) ?_
        refine lv_iload_n hx_ hb_ d_Code_write_27 rfl (lv_at hl 3 rfl) ?_
        refine zz_ci (zz_rV (As := [.ref (zz_ad (xg_G q) 1), .ref (zz_ad (xg_G q) 18), .int (nI i)]) (rest := []) hC hK hZ 27 (c_Code_followChoices l q Si i (by omega) rl R sz1 nb hBi (gs i) (qs i) (op i) _ _ (fun k hk => by
          rw [(ho (42 + 3 * i + 1) (by omega)).2, (ho (42 + 3 * i + 2) (by omega)).1]
          exact (hQ i (by omega)).1 k hk) (hQ i (by omega)).2.1 (Wk i) w1 (hk38 i hi.1 (by omega)) w2 (wr_path rl qs Wk i) q1 q2) k_Code_followChoices (Nat.le_of_ble_eq_true rfl) (xc_27 q _ _) rfl wd_426 ⟨rfl, rfl, by decide, by decide⟩ rfl hl.1 rfl (Nat.le_of_ble_eq_true rfl) d_Code_write_28 ⟨Nat.zero_le _, Nat.zero_le _⟩) hZ (fun r28 S28 H locs hp28 hZ => ?_)
        obtain ⟨hp28a, rfl, hp28b⟩ := hp28
        have hp28 : zz_off (fun c => c = 40) Si S28 ∧ ∀ j, j < (wr_path rl qs Wk i).length → S28.1 40 j = nI ((wr_path rl qs Wk i).getD j 0) := ⟨hp28a, hp28b⟩
        refine lv_istore (i := 4) (lv' := [(4, .int (nI ((wr_path rl qs Wk i).length))), (0, .ref (zz_ad (xg_G q) 27)), (1, .ref (zz_ad (xg_G q) 1)), (2, .ref (zz_ad (xg_G q) 18)), (3, .int (nI i))]) hx_ hb_ d_Code_write_31 hl (by decide) rfl (fun ls hl => ?_)
        refine lv_aload_n hx_ hb_ d_Code_write_33 rfl (lv_at hl 1 rfl) ?_
        refine lv_aload_n hx_ hb_ d_Code_write_34 rfl (lv_at hl 3 rfl) ?_
        refine lv_iload_n hx_ hb_ d_Code_write_35 rfl (lv_at hl 4 rfl) ?_
        refine lv_aload_n hx_ hb_ d_Code_write_36 rfl (lv_at hl 1 rfl) ?_
        refine zz_get hC hK hZ 27 12 (Nat.le_of_ble_eq_true rfl) (xc_27 q _ _) rfl hin_Code (by decide) wd_193 rfl rfl d_Code_write_37 ?_
        refine lv_iload hx_ hb_ d_Code_write_40 (lv_at hl 0 rfl) ?_
        refine lv_iconst (v := nI 1) hx_ hb_ d_Code_write_42 (by decide) ?_
        refine lv_isub hx_ hb_ d_Code_write_43 ?_
        refine zz_topi (y := nI ((wr_path rl qs Wk i).length - 1)) (pk_sub (by omega)) ?_
        refine zz_iald hC hK hZ 40 0 ((wr_path rl qs Wk i).length - 1) (Nat.le_of_ble_eq_true rfl) (xc_40 q _ _) rfl rfl (by omega) (by decide) rfl d_Code_write_44 ?_
        refine zz_topi (y := nI (wr_last rl qs Wk i)) (hp28.2 _ (by omega)) ?_
        refine zz_cv (zz_rV (As := [.ref (zz_ad (xg_G q) 18), .int (nI i), .int (nI (wr_last rl qs Wk i))]) (rest := []) hC hK hZ 27 (c_Code_writeOperator l q S28 op nu sz ht m t (by
          unfold xp_ok
          rw [(hp28.1 18 (by omega)).1, (hp28.1 19 (by omega)).1, (hp28.1 20 (by omega)).1, (hp28.1 21 (by omega)).1, (hp28.1 22 (by omega)).1]
          exact hPi) i (wr_last rl qs Wk i) (wr_st rl op nu sz qs Wk (m - sz (m - 1)) (i - (m - sz (m - 1)))).1 (wr_st rl op nu sz qs Wk (m - sz (m - 1)) (i - (m - sz (m - 1)))).2 ht1 hi.1 (by omega) (by
          unfold xk_ok
          rw [(hp28.1 27 (by omega)).1, (hp28.1 28 (by omega)).1, (hp28.1 29 (by omega)).1, (hp28.1 30 (by omega)).1, (hp28.1 31 (by omega)).1, (hp28.1 32 (by omega)).1, (hp28.1 33 (by omega)).1, (hp28.1 34 (by omega)).1]
          exact hk) (by omega) (fun c h1 h2 => ⟨by rw [(hp28.1 39 (by omega)).1]; exact hla c h1 h2, i4 c h1 (by omega)⟩)) k_Code_writeOperator (Nat.le_of_ble_eq_true rfl) (xc_27 q _ _) rfl wd_432 ⟨rfl, rfl, by decide, by decide⟩ rfl hl.1 rfl (Nat.le_of_ble_eq_true rfl) d_Code_write_45 ⟨Nat.zero_le _, Nat.zero_le _⟩) hZ (fun S45 H locs hp45 hZ => ?_)
        refine lv_iload hx_ hb_ d_Code_write_48 (lv_at hl 0 rfl) ?_
        refine lv_iconst (v := nI 2) hx_ hb_ d_Code_write_50 (by decide) ?_
        refine lv_isub hx_ hb_ d_Code_write_51 ?_
        refine zz_topi (y := nI ((wr_path rl qs Wk i).length - 1) - 1) (zz_m2 (by omega)) ?_
        refine lv_istore (i := 5) (lv' := [(5, .int (nI ((wr_path rl qs Wk i).length - 1) - 1)), (4, .int (nI ((wr_path rl qs Wk i).length))), (0, .ref (zz_ad (xg_G q) 27)), (1, .ref (zz_ad (xg_G q) 1)), (2, .ref (zz_ad (xg_G q) 18)), (3, .int (nI i))]) hx_ hb_ d_Code_write_52 hl (by decide) rfl (fun ls hl => ?_)
        refine L54 i ((wr_path rl qs Wk i).length - 1) S45 Wk ?_ _ _ _ (by omega) (by omega) (zz_off_tr ho (zz_off_tr (zz_off_mono hp28.1 (fun c h => by omega)) (zz_off_mono hp45.1 (fun c h => Or.inl h)))) (by rw [hp45.2.1, (hp28.1 27 (by omega)).1]; exact h14) hW (fun c h1 h2 => by rw [(hp45.1 38 (by omega)).1, (hp28.1 38 (by omega)).1]; exact hk38 c h1 h2) (fun c h1 h2 => by rw [(hp45.1 39 (by omega)).1, (hp28.1 39 (by omega)).1]; exact hla c h1 h2) (fun j hj => by rw [(hp45.1 40 (by omega)).1]; exact hp28.2 j hj) (by rw [wr_none q3]; exact hp45.2.2) hZ (lv_sub hl [2, 3, 4, 5, 1, 0] rfl)
        · intro Si H locs ls hi ho h14 hW hk38 hla hkA hZ hl
          have hlen : 1 ≤ (cd_ch (i - (m - sz (m - 1))) (wr_rv rl qs Wk i) (wr_op rl op nu sz qs Wk (m - sz (m - 1)) i)).1 := by
            rw [cd_ch_len]
            show 1 ≤ _ + 1 + _
            omega
          have hl160 := hkA.2.1
          refine lv_aload_n hx_ hb_ d_Code_write_93 rfl (lv_at hl 0 rfl) ?_
          refine zz_get hC hK hZ 27 11 (Nat.le_of_ble_eq_true rfl) (xc_27 q _ _) rfl hin_Code (by decide) wd_192 rfl rfl d_Code_write_94 ?_
          refine lv_iload_n hx_ hb_ d_Code_write_97 rfl (lv_at hl 3 rfl) ?_
          refine lv_aload_n hx_ hb_ d_Code_write_98 rfl (lv_at hl 0 rfl) ?_
          refine zz_get hC hK hZ 27 13 (Nat.le_of_ble_eq_true rfl) (xc_27 q _ _) rfl hin_Code (by decide) wd_194 rfl rfl d_Code_write_99 ?_
          refine zz_topi (y := nI ((cd_ch (i - (m - sz (m - 1))) (wr_rv rl qs Wk i) (wr_op rl op nu sz qs Wk (m - sz (m - 1)) i)).1)) hkA.1 ?_
          refine lv_iconst (v := nI 1) hx_ hb_ d_Code_write_102 (by decide) ?_
          refine lv_isub hx_ hb_ d_Code_write_103 ?_
          refine zz_topi (y := nI ((cd_ch (i - (m - sz (m - 1))) (wr_rv rl qs Wk i) (wr_op rl op nu sz qs Wk (m - sz (m - 1)) i)).1 - 1)) (pk_sub (by omega)) ?_
          refine zz_iast hC hK hZ 39 0 i (Nat.le_of_ble_eq_true rfl) (fun _ => xc_39 q _ _) rfl rfl (by omega) (by decide) d_Code_write_104 (fun H locs hZ => ?_)
          refine lv_iinc (k := 3) (v := nI (i + 1)) (lv' := [(3, .int (nI (i + 1))), (0, .ref (zz_ad (xg_G q) 27)), (1, .ref (zz_ad (xg_G q) 1)), (2, .ref (zz_ad (xg_G q) 18))]) hx_ hb_ d_Code_write_105 hl rfl (nI_add _ 1) (by decide) rfl (fun ls hl => ?_)
          refine lv_goto (tgt := 16) hx_ hb_ d_Code_write_108 (by decide) ?_
          exact ih_ _ (by omega) (i + 1) (zz_u Si 39 i (nI ((cd_ch (i - (m - sz (m - 1))) (wr_rv rl qs Wk i) (wr_op rl op nu sz qs Wk (m - sz (m - 1)) i)).1 - 1))) Wk  _ _ _ (by omega) (zz_off_tr ho (fun d hd => ⟨zz_u1 _ 39 _ _ d (fun h => hd (by omega)), rfl⟩)) h14 hW hk38 (fun c h1 h2 => by
            rw [zz_u1s, wr_next hi.1]
            show _ = nI (va_up _ i _ c)
            by_cases e : c = i
            · rw [e, pk_us, mp_up_s]
            · rw [pk_un e, mp_up_n e]
              exact hla c h1 (by omega)) (by
            rw [wr_next hi.1]
            unfold xk_ok
            rw [zz_u1 _ 39 _ _ 27 (by omega), zz_u1 _ 39 _ _ 28 (by omega), zz_u1 _ 39 _ _ 29 (by omega), zz_u1 _ 39 _ _ 30 (by omega), zz_u1 _ 39 _ _ 31 (by omega), zz_u1 _ 39 _ _ 32 (by omega), zz_u1 _ 39 _ _ 33 (by omega), zz_u1 _ 39 _ _ 34 (by omega)]
            exact hkA) hZ (lv_sub hl [1, 2, 3, 0] rfl) rfl
  have L16 : ∀ (i : Nat) (Si : zz_S) (Wk : Nat → Nat) (H : Heap) (locs : List Loc) (ls : Array Slot) (hi : (m - sz (m - 1)) ≤ i ∧ i ≤ m) (ho : zz_off wr_X S Si) (h14 : Si.1 27 14 = S.1 27 14) (hW : wk_ok rl op sz gs qs Wk (m - sz (m - 1)) m) (hk38 : ∀ c, (m - sz (m - 1)) ≤ c → c < m → Si.1 38 c = nI (Wk c)) (hla : ∀ c, (m - sz (m - 1)) ≤ c → c < i → Si.1 39 c = nI ((wr_st rl op nu sz qs Wk (m - sz (m - 1)) (i - (m - sz (m - 1)))).2 c)) (hk : xk_ok Si (wr_st rl op nu sz qs Wk (m - sz (m - 1)) (i - (m - sz (m - 1)))).1) (hZ : zz_Z (xg_G q) Si s_.heap H locs) (hl : lv_has ls 6 [(0, .ref (zz_ad (xg_G q) 27)), (1, .ref (zz_ad (xg_G q) 1)), (2, .ref (zz_ad (xg_G q) 18)), (3, .int (nI i))]), W p_ l e_ rm_Code_write s_ m_ ([.ref (zz_ad (xg_G q) 27), .ref (zz_ad (xg_G q) 1), .ref (zz_ad (xg_G q) 18)] : List Value).toArray bl_ mt_ c_ H locs 0 0 (MQ bl_ (va_Qv (fun S1 => zz_off wr_X S S1 ∧ S1.1 27 14 = S.1 27 14 ∧ ∃ Wk, wk_ok rl op sz gs qs Wk (m - sz (m - 1)) m ∧ xk_ok S1 (wr_st rl op nu sz qs Wk (m - sz (m - 1)) (sz (m - 1))).1) (zz_P (xg_G q)) (zz_A (xg_G q))) ([.ref (zz_ad (xg_G q) 27), .ref (zz_ad (xg_G q) 1), .ref (zz_ad (xg_G q) 18)] : List Value).toArray s_ 0 0 (zz_A (xg_G q))) (F0 m_ 16 ls []) := fun i Si Wk H locs ls hi ho h14 hW hk38 hla hk hZ hl => L16_ _ i Si Wk H locs ls hi ho h14 hW hk38 hla hk hZ hl rfl
  refine lv_aload_n hx_ hb_ d_Code_write_0 rfl (lv_at hl 0 rfl) ?_
  refine lv_iconst (v := nI 0) hx_ hb_ d_Code_write_1 (by decide) ?_
  refine zz_put hC hK hZ 27 13 (Nat.le_of_ble_eq_true rfl) (xc_27 q _ _) rfl hin_Code t_Code t_Code_ok n_Code (by decide) wd_194 rfl rfl rfl (Nat.le_of_ble_eq_true rfl) rfl d_Code_write_2 (fun H locs hZ => ?_)
  refine lv_aload_n hx_ hb_ d_Code_write_5 rfl (lv_at hl 0 rfl) ?_
  refine lv_aload_n hx_ hb_ d_Code_write_6 rfl (lv_at hl 1 rfl) ?_
  refine lv_aload_n hx_ hb_ d_Code_write_7 rfl (lv_at hl 2 rfl) ?_
  refine zz_cv (zz_rV (As := [.ref (zz_ad (xg_G q) 1), .ref (zz_ad (xg_G q) 18)]) (rest := []) hC hK hZ 27 (c_Code_chooseKinds l q (zz_u S 27 13 (nI 0)) op nu sz ht m t hP0 rl R sz1 nb (xb_keep hB (fun c h1 h2 => zz_u1 S 27 13 _ c (by omega))) gs qs (xq_keep hQ hm40 (fun c h1 h2 => ⟨zz_u1 S 27 13 _ c (by omega), rfl⟩)) ht1 hcov) k_Code_chooseKinds (Nat.le_of_ble_eq_true rfl) (xc_27 q _ _) rfl wd_421 ⟨rfl, rfl, by decide, by decide⟩ rfl hl.1 rfl (Nat.le_of_ble_eq_true rfl) d_Code_write_8 ⟨Nat.zero_le _, Nat.zero_le _⟩) hZ (fun S8 H locs hp8 hZ => ?_)
  obtain ⟨hp8a, Wk, hWk⟩ := hp8
  have hp8 : zz_off (fun c => c = 38 ∨ c = 40) _ S8 ∧ True := ⟨hp8a, trivial⟩
  refine lv_aload_n hx_ hb_ d_Code_write_11 rfl (lv_at hl 2 rfl) ?_
  refine zz_ci (zz_rV (As := []) (rest := []) hC hK hZ 18 (c_Pile_topStart l q S8 op nu sz ht m t (by
    unfold xp_ok
    rw [(hp8.1 18 (by omega)).1, (hp8.1 19 (by omega)).1, (hp8.1 20 (by omega)).1, (hp8.1 21 (by omega)).1, (hp8.1 22 (by omega)).1]
    exact hP0)) k_Pile_topStart (Nat.le_of_ble_eq_true rfl) (xc_18 q _ _) rfl wd_425 ⟨rfl, rfl, by decide, by decide⟩ rfl hl.1 rfl (Nat.le_of_ble_eq_true rfl) d_Code_write_12 ⟨Nat.zero_le _, Nat.zero_le _⟩) hZ (fun r12 S12 H locs hp12 hZ => ?_)
  obtain ⟨rfl, rfl⟩ := hp12
  rw [if_neg ht1]
  refine lv_istore_n (i := 3) (lv' := [(3, .int (nI (m - sz (m - 1)))), (0, .ref (zz_ad (xg_G q) 27)), (1, .ref (zz_ad (xg_G q) 1)), (2, .ref (zz_ad (xg_G q) 18))]) hx_ hb_ d_Code_write_15 rfl hl (by decide) rfl (fun ls hl => ?_)
  exact L16 (m - sz (m - 1)) S8 Wk  _ _ _ (by omega) (zz_off_tr (fun d hd => ⟨zz_u1 S 27 13 _ d (fun h => hd (by omega)), rfl⟩) (zz_off_mono hp8.1 (fun c h => by rcases h with h | h <;> omega))) (by rw [(hp8.1 27 (by omega)).1]; rfl) hWk.1 hWk.2 (fun c h1 h2 => absurd h2 (by omega)) (by
    rw [Nat.sub_self]
    exact ⟨by rw [(hp8.1 27 (by omega)).1]; rfl, by show 0 ≤ 160; omega, fun j hj => absurd hj (Nat.not_lt_zero j)⟩) hZ (lv_sub hl [1, 2, 3, 0] rfl)
