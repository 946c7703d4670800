/-! The code: instructions, questions, running. Laid by wip/whole/prog/p8.py. -/
set_option maxHeartbeats 4000000 in
set_option maxRecDepth 100000 in
theorem c_Code_append (l : Launch) (q : xg_T) (S : zz_S) (cs : cd_T) (r nd o a b : Nat) (nu : Int32) (hk : xk_ok S cs) (hn : cs.1 < 160) (ha : a < 1000 → a < cs.1) (hb : b < 1000 → b < cs.1) : Met l y_Code_append (Cond.code y_Code_append b_Code_append 7 none :: zz_tbl) rm_Code_append (zz_Pc [.ref (zz_ad (xg_G q) 27), .int (nI r), .int (nI nd), .int (nI o), .int nu, .int (vw_s a), .int (vw_s b)] (xg_G q) S) (va_Qv (fun S1 => zz_off xk_X S S1 ∧ S1.1 27 14 = S.1 27 14 ∧ xk_ok S1 (cd_ap cs r nd o nu a b)) (zz_P (xg_G q)) (zz_A (xg_G q))) 0 0 (zz_A (xg_G q)) := by
  refine zz_met (by decide) (Nat.le_of_ble_eq_true rfl) ?_
  intro p_ e_ s_ m_ bl_ mt_ c_ ls hC hK hZ hl
  have hC : zz_C p_ s_ m_ _ mt_ c_ b_Code_append 7 none "TreeCoverForge$Code" := hC
  have hx_ := hC.1
  have hb_ := hC.2.1
  have hl : lv_has ls 7 [(0, .ref (zz_ad (xg_G q) 27)), (1, .int (nI r)), (2, .int (nI nd)), (3, .int (nI o)), (4, .int nu), (5, .int (vw_s a)), (6, .int (vw_s b))] := hl
  have J112 : ∀ (So : zz_S) (H : Heap) (locs : List Loc) (ls : Array Slot) (ho : zz_off (fun c => c = 34) (xk_b S cs.1 r nd o nu a b) So) (h34 : ∀ j, j < cs.1 + 1 → So.1 34 j = nI (cd_un (cd_un (va_up cs.2.2.2.2.2.2.2 cs.1 cs.1) cs.1 a) cs.1 b j)) (hZ : zz_Z (xg_G q) So s_.heap H locs) (hl : lv_has ls 7 [(0, .ref (zz_ad (xg_G q) 27)), (1, .int (nI r)), (2, .int (nI nd)), (3, .int (nI o)), (4, .int nu), (5, .int (vw_s a)), (6, .int (vw_s b))]), W p_ l e_ rm_Code_append s_ m_ ([.ref (zz_ad (xg_G q) 27), .int (nI r), .int (nI nd), .int (nI o), .int nu, .int (vw_s a), .int (vw_s b)] : List Value).toArray bl_ mt_ c_ H locs 0 0 (MQ bl_ (va_Qv (fun S1 => zz_off xk_X S S1 ∧ S1.1 27 14 = S.1 27 14 ∧ xk_ok S1 (cd_ap cs r nd o nu a b)) (zz_P (xg_G q)) (zz_A (xg_G q))) ([.ref (zz_ad (xg_G q) 27), .int (nI r), .int (nI nd), .int (nI o), .int nu, .int (vw_s a), .int (vw_s b)] : List Value).toArray s_ 0 0 (zz_A (xg_G q))) (F0 m_ 112 ls []) := by
    intro So H locs ls ho h34 hZ hl
    have hcn : So.1 27 13 = nI cs.1 := by
      rw [(ho 27 (by omega)).1]
      exact hk.1
    refine lv_aload_n hx_ hb_ d_Code_append_112 rfl (lv_at hl 0 rfl) ?_
    refine lv_dup hx_ hb_ d_Code_append_113 rfl ?_
    refine zz_get hC hK hZ 27 13 (Nat.le_of_ble_eq_true rfl) (xc_27 q _ _) rfl hin_Code (by decide) wd_194 rfl rfl d_Code_append_114 ?_
    refine zz_topi (y := nI cs.1) hcn ?_
    refine lv_iconst (v := nI 1) hx_ hb_ d_Code_append_117 (by decide) ?_
    refine lv_iadd hx_ hb_ d_Code_append_118 ?_
    refine zz_topi (y := nI (cs.1 + 1)) (nI_add _ _) ?_
    refine zz_put hC hK hZ 27 13 (Nat.le_of_ble_eq_true rfl) (xc_27 q _ _) rfl hin_Code t_Code t_Code_ok n_Code (by decide) wd_194 rfl rfl rfl (Nat.le_of_ble_eq_true rfl) rfl d_Code_append_119 (fun H locs hZ => ?_)
    exact zz_vret hC hK hZ rfl d_Code_append_122 ⟨xk_boff ho, by
      show So.1 27 14 = S.1 27 14
      rw [(ho 27 (by omega)).1]
      rfl, xk_ap hk hn ho h34⟩
  have J94 : ∀ (So : zz_S) (H : Heap) (locs : List Loc) (ls : Array Slot) (ho : zz_off (fun c => c = 34) (xk_b S cs.1 r nd o nu a b) So) (h34 : ∀ j, j < cs.1 + 1 → So.1 34 j = nI (cd_un (va_up cs.2.2.2.2.2.2.2 cs.1 cs.1) cs.1 a j)) (hZ : zz_Z (xg_G q) So s_.heap H locs) (hl : lv_has ls 7 [(0, .ref (zz_ad (xg_G q) 27)), (1, .int (nI r)), (2, .int (nI nd)), (3, .int (nI o)), (4, .int nu), (5, .int (vw_s a)), (6, .int (vw_s b))]), W p_ l e_ rm_Code_append s_ m_ ([.ref (zz_ad (xg_G q) 27), .int (nI r), .int (nI nd), .int (nI o), .int nu, .int (vw_s a), .int (vw_s b)] : List Value).toArray bl_ mt_ c_ H locs 0 0 (MQ bl_ (va_Qv (fun S1 => zz_off xk_X S S1 ∧ S1.1 27 14 = S.1 27 14 ∧ xk_ok S1 (cd_ap cs r nd o nu a b)) (zz_P (xg_G q)) (zz_A (xg_G q))) ([.ref (zz_ad (xg_G q) 27), .int (nI r), .int (nI nd), .int (nI o), .int nu, .int (vw_s a), .int (vw_s b)] : List Value).toArray s_ 0 0 (zz_A (xg_G q))) (F0 m_ 94 ls []) := by
    intro So H locs ls ho h34 hZ hl
    have hcn : So.1 27 13 = nI cs.1 := by
      rw [(ho 27 (by omega)).1]
      exact hk.1
    refine lv_iload hx_ hb_ d_Code_append_94 (lv_at hl 6 rfl) ?_
    refine lv_bipush (v := (-3)) hx_ hb_ d_Code_append_96 (by decide) ?_
    refine zz_rjeq (tgt := 112) hC d_Code_append_98 (by decide) (fun h98 => ?_) (fun h98 => ?_)
    · exact J112 So  _ _ _ ho (fun j hj => by
        rw [xk_un_no (vw_s_eq h98)]
        exact h34 j hj) hZ (lv_sub hl [0, 1, 2, 3, 4, 5, 6] rfl)
    · refine lv_aload_n hx_ hb_ d_Code_append_101 rfl (lv_at hl 0 rfl) ?_
      refine zz_get hC hK hZ 27 6 (Nat.le_of_ble_eq_true rfl) (xc_27 q _ _) rfl hin_Code (by decide) wd_187 rfl rfl d_Code_append_102 ?_
      refine lv_iload hx_ hb_ d_Code_append_105 (lv_at hl 6 rfl) ?_
      refine lv_aload_n hx_ hb_ d_Code_append_107 rfl (lv_at hl 0 rfl) ?_
      refine zz_get hC hK hZ 27 13 (Nat.le_of_ble_eq_true rfl) (xc_27 q _ _) rfl hin_Code (by decide) wd_194 rfl rfl d_Code_append_108 ?_
      refine zz_topi (y := nI cs.1) hcn ?_
      refine zz_iast hC hK hZ 34 0 b (Nat.le_of_ble_eq_true rfl) (fun _ => xc_34 q _ _) rfl (vw_s_in (vw_s_ne h98)) (by have := hb (vw_s_ne h98); omega) (by decide) d_Code_append_111 (fun H locs hZ => ?_)
      exact J112 (zz_u So 34 b (nI cs.1))  _ _ _ (zz_off_tr ho (fun d hd => ⟨zz_u1 _ 34 b _ d hd, rfl⟩)) (fun j hj => by
        rw [zz_u1s]
        exact xk_upU (vw_s_ne h98) h34 j hj) hZ (lv_sub hl [0, 1, 2, 3, 4, 5, 6] rfl)
  refine lv_aload_n hx_ hb_ d_Code_append_0 rfl (lv_at hl 0 rfl) ?_
  refine zz_get hC hK hZ 27 0 (Nat.le_of_ble_eq_true rfl) (xc_27 q _ _) rfl hin_Code (by decide) wd_181 rfl rfl d_Code_append_1 ?_
  refine lv_aload_n hx_ hb_ d_Code_append_4 rfl (lv_at hl 0 rfl) ?_
  refine zz_get hC hK hZ 27 13 (Nat.le_of_ble_eq_true rfl) (xc_27 q _ _) rfl hin_Code (by decide) wd_194 rfl rfl d_Code_append_5 ?_
  refine zz_topi (y := nI cs.1) hk.1 ?_
  refine lv_iload_n hx_ hb_ d_Code_append_8 rfl (lv_at hl 1 rfl) ?_
  refine zz_iast hC hK hZ 28 0 cs.1 (Nat.le_of_ble_eq_true rfl) (fun _ => xc_28 q _ _) rfl rfl (by omega) (by decide) d_Code_append_9 (fun H locs hZ => ?_)
  refine lv_aload_n hx_ hb_ d_Code_append_10 rfl (lv_at hl 0 rfl) ?_
  refine zz_get hC hK hZ 27 1 (Nat.le_of_ble_eq_true rfl) (xc_27 q _ _) rfl hin_Code (by decide) wd_182 rfl rfl d_Code_append_11 ?_
  refine lv_aload_n hx_ hb_ d_Code_append_14 rfl (lv_at hl 0 rfl) ?_
  refine zz_get hC hK hZ 27 13 (Nat.le_of_ble_eq_true rfl) (xc_27 q _ _) rfl hin_Code (by decide) wd_194 rfl rfl d_Code_append_15 ?_
  refine zz_topi (y := nI cs.1) hk.1 ?_
  refine lv_iload_n hx_ hb_ d_Code_append_18 rfl (lv_at hl 2 rfl) ?_
  refine zz_iast hC hK hZ 29 0 cs.1 (Nat.le_of_ble_eq_true rfl) (fun _ => xc_29 q _ _) rfl rfl (by omega) (by decide) d_Code_append_19 (fun H locs hZ => ?_)
  refine lv_aload_n hx_ hb_ d_Code_append_20 rfl (lv_at hl 0 rfl) ?_
  refine zz_get hC hK hZ 27 2 (Nat.le_of_ble_eq_true rfl) (xc_27 q _ _) rfl hin_Code (by decide) wd_183 rfl rfl d_Code_append_21 ?_
  refine lv_aload_n hx_ hb_ d_Code_append_24 rfl (lv_at hl 0 rfl) ?_
  refine zz_get hC hK hZ 27 13 (Nat.le_of_ble_eq_true rfl) (xc_27 q _ _) rfl hin_Code (by decide) wd_194 rfl rfl d_Code_append_25 ?_
  refine zz_topi (y := nI cs.1) hk.1 ?_
  refine lv_iload_n hx_ hb_ d_Code_append_28 rfl (lv_at hl 3 rfl) ?_
  refine zz_iast hC hK hZ 30 0 cs.1 (Nat.le_of_ble_eq_true rfl) (fun _ => xc_30 q _ _) rfl rfl (by omega) (by decide) d_Code_append_29 (fun H locs hZ => ?_)
  refine lv_aload_n hx_ hb_ d_Code_append_30 rfl (lv_at hl 0 rfl) ?_
  refine zz_get hC hK hZ 27 3 (Nat.le_of_ble_eq_true rfl) (xc_27 q _ _) rfl hin_Code (by decide) wd_184 rfl rfl d_Code_append_31 ?_
  refine lv_aload_n hx_ hb_ d_Code_append_34 rfl (lv_at hl 0 rfl) ?_
  refine zz_get hC hK hZ 27 13 (Nat.le_of_ble_eq_true rfl) (xc_27 q _ _) rfl hin_Code (by decide) wd_194 rfl rfl d_Code_append_35 ?_
  refine zz_topi (y := nI cs.1) hk.1 ?_
  refine lv_iload hx_ hb_ d_Code_append_38 (lv_at hl 4 rfl) ?_
  refine zz_iast hC hK hZ 31 0 cs.1 (Nat.le_of_ble_eq_true rfl) (fun _ => xc_31 q _ _) rfl rfl (by omega) (by decide) d_Code_append_40 (fun H locs hZ => ?_)
  refine lv_aload_n hx_ hb_ d_Code_append_41 rfl (lv_at hl 0 rfl) ?_
  refine zz_get hC hK hZ 27 4 (Nat.le_of_ble_eq_true rfl) (xc_27 q _ _) rfl hin_Code (by decide) wd_185 rfl rfl d_Code_append_42 ?_
  refine lv_aload_n hx_ hb_ d_Code_append_45 rfl (lv_at hl 0 rfl) ?_
  refine zz_get hC hK hZ 27 13 (Nat.le_of_ble_eq_true rfl) (xc_27 q _ _) rfl hin_Code (by decide) wd_194 rfl rfl d_Code_append_46 ?_
  refine zz_topi (y := nI cs.1) hk.1 ?_
  refine lv_iload hx_ hb_ d_Code_append_49 (lv_at hl 5 rfl) ?_
  refine zz_iast hC hK hZ 32 0 cs.1 (Nat.le_of_ble_eq_true rfl) (fun _ => xc_32 q _ _) rfl rfl (by omega) (by decide) d_Code_append_51 (fun H locs hZ => ?_)
  refine lv_aload_n hx_ hb_ d_Code_append_52 rfl (lv_at hl 0 rfl) ?_
  refine zz_get hC hK hZ 27 5 (Nat.le_of_ble_eq_true rfl) (xc_27 q _ _) rfl hin_Code (by decide) wd_186 rfl rfl d_Code_append_53 ?_
  refine lv_aload_n hx_ hb_ d_Code_append_56 rfl (lv_at hl 0 rfl) ?_
  refine zz_get hC hK hZ 27 13 (Nat.le_of_ble_eq_true rfl) (xc_27 q _ _) rfl hin_Code (by decide) wd_194 rfl rfl d_Code_append_57 ?_
  refine zz_topi (y := nI cs.1) hk.1 ?_
  refine lv_iload hx_ hb_ d_Code_append_60 (lv_at hl 6 rfl) ?_
  refine zz_iast hC hK hZ 33 0 cs.1 (Nat.le_of_ble_eq_true rfl) (fun _ => xc_33 q _ _) rfl rfl (by omega) (by decide) d_Code_append_62 (fun H locs hZ => ?_)
  refine lv_aload_n hx_ hb_ d_Code_append_63 rfl (lv_at hl 0 rfl) ?_
  refine zz_get hC hK hZ 27 6 (Nat.le_of_ble_eq_true rfl) (xc_27 q _ _) rfl hin_Code (by decide) wd_187 rfl rfl d_Code_append_64 ?_
  refine lv_aload_n hx_ hb_ d_Code_append_67 rfl (lv_at hl 0 rfl) ?_
  refine zz_get hC hK hZ 27 13 (Nat.le_of_ble_eq_true rfl) (xc_27 q _ _) rfl hin_Code (by decide) wd_194 rfl rfl d_Code_append_68 ?_
  refine zz_topi (y := nI cs.1) hk.1 ?_
  refine lv_aload_n hx_ hb_ d_Code_append_71 rfl (lv_at hl 0 rfl) ?_
  refine zz_get hC hK hZ 27 13 (Nat.le_of_ble_eq_true rfl) (xc_27 q _ _) rfl hin_Code (by decide) wd_194 rfl rfl d_Code_append_72 ?_
  refine zz_topi (y := nI cs.1) hk.1 ?_
  refine zz_iast hC hK hZ 34 0 cs.1 (Nat.le_of_ble_eq_true rfl) (fun _ => xc_34 q _ _) rfl rfl (by omega) (by decide) d_Code_append_75 (fun H locs hZ => ?_)
  refine lv_iload hx_ hb_ d_Code_append_76 (lv_at hl 5 rfl) ?_
  refine lv_bipush (v := (-3)) hx_ hb_ d_Code_append_78 (by decide) ?_
  refine zz_rjeq (tgt := 94) hC d_Code_append_80 (by decide) (fun h80 => ?_) (fun h80 => ?_)
  · exact J94 (zz_u (zz_u (zz_u (zz_u (zz_u (zz_u (zz_u S 28 cs.1 (nI r)) 29 cs.1 (nI nd)) 30 cs.1 (nI o)) 31 cs.1 nu) 32 cs.1 (vw_s a)) 33 cs.1 (vw_s b)) 34 cs.1 (nI cs.1))  _ _ _ zz_off_rf (fun j hj => by
      rw [xk_un_no (vw_s_eq h80)]
      exact xk_upN (k := 0) (fun j hj => (hk.2.2 j hj).2.2.2.2.2.2) j hj) hZ (lv_sub hl [0, 1, 2, 3, 4, 5, 6] rfl)
  · refine lv_aload_n hx_ hb_ d_Code_append_83 rfl (lv_at hl 0 rfl) ?_
    refine zz_get hC hK hZ 27 6 (Nat.le_of_ble_eq_true rfl) (xc_27 q _ _) rfl hin_Code (by decide) wd_187 rfl rfl d_Code_append_84 ?_
    refine lv_iload hx_ hb_ d_Code_append_87 (lv_at hl 5 rfl) ?_
    refine lv_aload_n hx_ hb_ d_Code_append_89 rfl (lv_at hl 0 rfl) ?_
    refine zz_get hC hK hZ 27 13 (Nat.le_of_ble_eq_true rfl) (xc_27 q _ _) rfl hin_Code (by decide) wd_194 rfl rfl d_Code_append_90 ?_
    refine zz_topi (y := nI cs.1) hk.1 ?_
    refine zz_iast hC hK hZ 34 0 a (Nat.le_of_ble_eq_true rfl) (fun _ => xc_34 q _ _) rfl (vw_s_in (vw_s_ne h80)) (by have := ha (vw_s_ne h80); omega) (by decide) d_Code_append_93 (fun H locs hZ => ?_)
    exact J94 (zz_u (zz_u (zz_u (zz_u (zz_u (zz_u (zz_u (zz_u S 28 cs.1 (nI r)) 29 cs.1 (nI nd)) 30 cs.1 (nI o)) 31 cs.1 nu) 32 cs.1 (vw_s a)) 33 cs.1 (vw_s b)) 34 cs.1 (nI cs.1)) 34 a (nI cs.1))  _ _ _ (fun d hd => ⟨zz_u1 _ 34 a _ d hd, rfl⟩) (fun j hj => by
      rw [zz_u1s]
      exact xk_upU (vw_s_ne h80) (xk_upN (k := 0) (fun j hj => (hk.2.2 j hj).2.2.2.2.2.2)) j hj) hZ (lv_sub hl [0, 1, 2, 3, 4, 5, 6] rfl)
set_option maxHeartbeats 4000000 in
set_option maxRecDepth 100000 in
theorem c_Code_isNeededLonger (l : Launch) (q : xg_T) (S : zz_S) (a b ua ub : Nat) (ha : a < 160) (hb : b < 160) (hua : S.1 34 a = nI ua) (hub : S.1 34 b = nI ub) (h1 : ua < 160) (h2 : ub < 160) : Met l y_Code_isNeededLonger (Cond.code y_Code_isNeededLonger b_Code_isNeededLonger 3 (some .boolean) :: zz_tbl) rm_Code_isNeededLonger (zz_Pc [.ref (zz_ad (xg_G q) 27), .int (nI a), .int (nI b)] (xg_G q) S) (va_Qi (fun ans S1 => S = S1 ∧ ans = nI (if ub < ua ∨ ua = ub ∧ b < a then 1 else 0)) (zz_P (xg_G q)) (zz_A (xg_G q))) 0 0 (zz_A (xg_G q)) := by
  refine zz_met (by decide) (Nat.le_of_ble_eq_true rfl) ?_
  intro p_ e_ s_ m_ bl_ mt_ c_ ls hC hK hZ hl
  have hC : zz_C p_ s_ m_ _ mt_ c_ b_Code_isNeededLonger 3 (some .boolean) "TreeCoverForge$Code" := hC
  have hx_ := hC.1
  have hb_ := hC.2.1
  have hl : lv_has ls 3 [(0, .ref (zz_ad (xg_G q) 27)), (1, .int (nI a)), (2, .int (nI b))] := hl
  refine lv_aload_n hx_ hb_ d_Code_isNeededLonger_0 rfl (lv_at hl 0 rfl) ?_
  refine zz_get hC hK hZ 27 6 (Nat.le_of_ble_eq_true rfl) (xc_27 q _ _) rfl hin_Code (by decide) wd_187 rfl rfl d_Code_isNeededLonger_1 ?_
  refine lv_iload_n hx_ hb_ d_Code_isNeededLonger_4 rfl (lv_at hl 1 rfl) ?_
  refine zz_iald hC hK hZ 34 0 a (Nat.le_of_ble_eq_true rfl) (xc_34 q _ _) rfl rfl (by omega) (by decide) rfl d_Code_isNeededLonger_5 ?_
  refine zz_topi (y := nI ua) hua ?_
  refine lv_aload_n hx_ hb_ d_Code_isNeededLonger_6 rfl (lv_at hl 0 rfl) ?_
  refine zz_get hC hK hZ 27 6 (Nat.le_of_ble_eq_true rfl) (xc_27 q _ _) rfl hin_Code (by decide) wd_187 rfl rfl d_Code_isNeededLonger_7 ?_
  refine lv_iload_n hx_ hb_ d_Code_isNeededLonger_10 rfl (lv_at hl 2 rfl) ?_
  refine zz_iald hC hK hZ 34 0 b (Nat.le_of_ble_eq_true rfl) (xc_34 q _ _) rfl rfl (by omega) (by decide) rfl d_Code_isNeededLonger_11 ?_
  refine zz_topi (y := nI ub) hub ?_
  refine zz_jgt (tgt := 35) hC d_Code_isNeededLonger_12 (by decide) (by omega) (by omega) (fun h12 => ?_) (fun h12 => ?_)
  · refine lv_iconst (v := nI 1) hx_ hb_ d_Code_isNeededLonger_35 (by decide) ?_
    refine lv_goto (tgt := 40) hx_ hb_ d_Code_isNeededLonger_36 (by decide) ?_
    exact zz_zret hC hK hZ rfl d_Code_isNeededLonger_40 (by decide) ⟨rfl, by rw [if_pos (by omega)]⟩
  · refine lv_aload_n hx_ hb_ d_Code_isNeededLonger_15 rfl (lv_at hl 0 rfl) ?_
    refine zz_get hC hK hZ 27 6 (Nat.le_of_ble_eq_true rfl) (xc_27 q _ _) rfl hin_Code (by decide) wd_187 rfl rfl d_Code_isNeededLonger_16 ?_
    refine lv_iload_n hx_ hb_ d_Code_isNeededLonger_19 rfl (lv_at hl 1 rfl) ?_
    refine zz_iald hC hK hZ 34 0 a (Nat.le_of_ble_eq_true rfl) (xc_34 q _ _) rfl rfl (by omega) (by decide) rfl d_Code_isNeededLonger_20 ?_
    refine zz_topi (y := nI ua) hua ?_
    refine lv_aload_n hx_ hb_ d_Code_isNeededLonger_21 rfl (lv_at hl 0 rfl) ?_
    refine zz_get hC hK hZ 27 6 (Nat.le_of_ble_eq_true rfl) (xc_27 q _ _) rfl hin_Code (by decide) wd_187 rfl rfl d_Code_isNeededLonger_22 ?_
    refine lv_iload_n hx_ hb_ d_Code_isNeededLonger_25 rfl (lv_at hl 2 rfl) ?_
    refine zz_iald hC hK hZ 34 0 b (Nat.le_of_ble_eq_true rfl) (xc_34 q _ _) rfl rfl (by omega) (by decide) rfl d_Code_isNeededLonger_26 ?_
    refine zz_topi (y := nI ub) hub ?_
    refine zz_jne (tgt := 39) hC d_Code_isNeededLonger_27 (by decide) (by omega) (by omega) (fun h27 => ?_) (fun h27 => ?_)
    · refine lv_iconst (v := nI 0) hx_ hb_ d_Code_isNeededLonger_39 (by decide) ?_
      exact zz_zret hC hK hZ rfl d_Code_isNeededLonger_40 (by decide) ⟨rfl, by rw [if_neg (by omega)]⟩
    · refine lv_iload_n hx_ hb_ d_Code_isNeededLonger_30 rfl (lv_at hl 1 rfl) ?_
      refine lv_iload_n hx_ hb_ d_Code_isNeededLonger_31 rfl (lv_at hl 2 rfl) ?_
      refine zz_jle (tgt := 39) hC d_Code_isNeededLonger_32 (by decide) (by omega) (by omega) (fun h32 => ?_) (fun h32 => ?_)
      · refine lv_iconst (v := nI 0) hx_ hb_ d_Code_isNeededLonger_39 (by decide) ?_
        exact zz_zret hC hK hZ rfl d_Code_isNeededLonger_40 (by decide) ⟨rfl, by rw [if_neg (by omega)]⟩
      · refine lv_iconst (v := nI 1) hx_ hb_ d_Code_isNeededLonger_35 (by decide) ?_
        refine lv_goto (tgt := 40) hx_ hb_ d_Code_isNeededLonger_36 (by decide) ?_
        exact zz_zret hC hK hZ rfl d_Code_isNeededLonger_40 (by decide) ⟨rfl, by rw [if_pos (by omega)]⟩
set_option maxHeartbeats 4000000 in
set_option maxRecDepth 100000 in
theorem c_Code_placeOf (l : Launch) (q : xg_T) (S : zz_S) (pl : Nat → Nat) (a : Nat) (hp : a < 1000 → a < 160 ∧ S.1 35 a = nI (pl a)) : Met l y_Code_placeOf (Cond.code y_Code_placeOf b_Code_placeOf 2 (some .int) :: zz_tbl) rm_Code_placeOf (zz_Pc [.ref (zz_ad (xg_G q) 27), .int (vw_s a)] (xg_G q) S) (va_Qi (fun ans S1 => S = S1 ∧ ans = if a < 1000 then nI (pl a) else -3) (zz_P (xg_G q)) (zz_A (xg_G q))) 0 0 (zz_A (xg_G q)) := by
  refine zz_met (by decide) (Nat.le_of_ble_eq_true rfl) ?_
  intro p_ e_ s_ m_ bl_ mt_ c_ ls hC hK hZ hl
  have hC : zz_C p_ s_ m_ _ mt_ c_ b_Code_placeOf 2 (some .int) "TreeCoverForge$Code" := hC
  have hx_ := hC.1
  have hb_ := hC.2.1
  have hl : lv_has ls 2 [(0, .ref (zz_ad (xg_G q) 27)), (1, .int (vw_s a))] := hl
  refine lv_iload_n hx_ hb_ d_Code_placeOf_0 rfl (lv_at hl 1 rfl) ?_
  refine lv_bipush (v := (-3)) hx_ hb_ d_Code_placeOf_1 (by decide) ?_
  refine zz_rjne (tgt := 11) hC d_Code_placeOf_3 (by decide) (fun h3 => ?_) (fun h3 => ?_)
  · refine lv_aload_n hx_ hb_ d_Code_placeOf_11 rfl (lv_at hl 0 rfl) ?_
    refine zz_get hC hK hZ 27 7 (Nat.le_of_ble_eq_true rfl) (xc_27 q _ _) rfl hin_Code (by decide) wd_188 rfl rfl d_Code_placeOf_12 ?_
    refine lv_iload_n hx_ hb_ d_Code_placeOf_15 rfl (lv_at hl 1 rfl) ?_
    refine zz_iald hC hK hZ 35 0 a (Nat.le_of_ble_eq_true rfl) (xc_35 q _ _) rfl (vw_s_in (vw_s_ne h3)) (hp (vw_s_ne h3)).1 (by decide) rfl d_Code_placeOf_16 ?_
    refine zz_topi (y := nI (pl a)) (hp (vw_s_ne h3)).2 ?_
    exact zz_iret hC hK hZ rfl d_Code_placeOf_17 ⟨rfl, by rw [if_pos (vw_s_ne h3)]⟩
  · refine lv_bipush (v := (-3)) hx_ hb_ d_Code_placeOf_6 (by decide) ?_
    refine lv_goto (tgt := 17) hx_ hb_ d_Code_placeOf_8 (by decide) ?_
    exact zz_iret hC hK hZ rfl d_Code_placeOf_17 ⟨rfl, by rw [if_neg (vw_s_eq h3)]⟩
set_option maxHeartbeats 4000000 in
set_option maxRecDepth 100000 in
theorem c_Code_tell (l : Launch) (q : xg_T) (S : zz_S) (cs : cd_T) (pl : Nat → Nat) (i w : Nat) (hk : xk_ok S cs) (hi : i < cs.1) (hw : w ≤ 4) (hs : ∀ i, i < cs.1 → (cs.2.2.2.2.2.1 i < 1000 → cs.2.2.2.2.2.1 i < i) ∧ (cs.2.2.2.2.2.2.1 i < 1000 → cs.2.2.2.2.2.2.1 i < i)) (hpl : ∀ i, i < cs.1 → S.1 35 i = nI (pl i)) : Met l y_Code_tell (Cond.code y_Code_tell b_Code_tell 3 (some .int) :: zz_tbl) rm_Code_tell (zz_Pc [.ref (zz_ad (xg_G q) 27), .int (nI i), .int (nI w)] (xg_G q) S) (va_Qi (fun ans S1 => S = S1 ∧ ans = xk_tell cs pl i w) (zz_P (xg_G q)) (zz_A (xg_G q))) 0 0 (zz_A (xg_G q)) := by
  refine zz_met (by decide) (Nat.le_of_ble_eq_true rfl) ?_
  intro p_ e_ s_ m_ bl_ mt_ c_ ls hC hK hZ hl
  have hC : zz_C p_ s_ m_ _ mt_ c_ b_Code_tell 3 (some .int) "TreeCoverForge$Code" := hC
  have hx_ := hC.1
  have hb_ := hC.2.1
  have hl : lv_has ls 3 [(0, .ref (zz_ad (xg_G q) 27)), (1, .int (nI i)), (2, .int (nI w))] := hl
  have hn := hk.2.1
  have hki := hk.2.2 i hi
  refine lv_iload_n hx_ hb_ d_Code_tell_0 rfl (lv_at hl 2 rfl) ?_
  have hcs : w = 0 ∨ w = 1 ∨ w = 2 ∨ w = 3 ∨ 4 ≤ w := by omega
  rcases hcs with rfl | rfl | rfl | rfl | hcs
  · refine lv_tableIn (off := 31) (tgt := 32) hx_ hb_ d_Code_tell_1 (by decide) (by decide) rfl (by decide) ?_
    refine lv_aload_n hx_ hb_ d_Code_tell_32 rfl (lv_at hl 0 rfl) ?_
    refine zz_get hC hK hZ 27 0 (Nat.le_of_ble_eq_true rfl) (xc_27 q _ _) rfl hin_Code (by decide) wd_181 rfl rfl d_Code_tell_33 ?_
    refine lv_iload_n hx_ hb_ d_Code_tell_36 rfl (lv_at hl 1 rfl) ?_
    refine zz_iald hC hK hZ 28 0 i (Nat.le_of_ble_eq_true rfl) (xc_28 q _ _) rfl rfl (by omega) (by decide) rfl d_Code_tell_37 ?_
    refine zz_topi (y := nI (cs.2.1 i)) hki.1 ?_
    exact zz_iret hC hK hZ rfl d_Code_tell_38 ⟨rfl, rfl⟩
  · refine lv_tableIn (off := 38) (tgt := 39) hx_ hb_ d_Code_tell_1 (by decide) (by decide) rfl (by decide) ?_
    refine lv_aload_n hx_ hb_ d_Code_tell_39 rfl (lv_at hl 0 rfl) ?_
    refine zz_get hC hK hZ 27 1 (Nat.le_of_ble_eq_true rfl) (xc_27 q _ _) rfl hin_Code (by decide) wd_182 rfl rfl d_Code_tell_40 ?_
    refine lv_iload_n hx_ hb_ d_Code_tell_43 rfl (lv_at hl 1 rfl) ?_
    refine zz_iald hC hK hZ 29 0 i (Nat.le_of_ble_eq_true rfl) (xc_29 q _ _) rfl rfl (by omega) (by decide) rfl d_Code_tell_44 ?_
    refine zz_topi (y := nI (cs.2.2.1 i)) hki.2.1 ?_
    exact zz_iret hC hK hZ rfl d_Code_tell_45 ⟨rfl, rfl⟩
  · refine lv_tableIn (off := 45) (tgt := 46) hx_ hb_ d_Code_tell_1 (by decide) (by decide) rfl (by decide) ?_
    refine lv_aload_n hx_ hb_ d_Code_tell_46 rfl (lv_at hl 0 rfl) ?_
    refine zz_get hC hK hZ 27 7 (Nat.le_of_ble_eq_true rfl) (xc_27 q _ _) rfl hin_Code (by decide) wd_188 rfl rfl d_Code_tell_47 ?_
    refine lv_iload_n hx_ hb_ d_Code_tell_50 rfl (lv_at hl 1 rfl) ?_
    refine zz_iald hC hK hZ 35 0 i (Nat.le_of_ble_eq_true rfl) (xc_35 q _ _) rfl rfl (by omega) (by decide) rfl d_Code_tell_51 ?_
    refine zz_topi (y := nI (pl i)) (hpl i hi) ?_
    exact zz_iret hC hK hZ rfl d_Code_tell_52 ⟨rfl, rfl⟩
  · refine lv_tableIn (off := 52) (tgt := 53) hx_ hb_ d_Code_tell_1 (by decide) (by decide) rfl (by decide) ?_
    refine lv_aload_n hx_ hb_ d_Code_tell_53 rfl (lv_at hl 0 rfl) ?_
    refine lv_aload_n hx_ hb_ d_Code_tell_54 rfl (lv_at hl 0 rfl) ?_
    refine zz_get hC hK hZ 27 4 (Nat.le_of_ble_eq_true rfl) (xc_27 q _ _) rfl hin_Code (by decide) wd_185 rfl rfl d_Code_tell_55 ?_
    refine lv_iload_n hx_ hb_ d_Code_tell_58 rfl (lv_at hl 1 rfl) ?_
    refine zz_iald hC hK hZ 32 0 i (Nat.le_of_ble_eq_true rfl) (xc_32 q _ _) rfl rfl (by omega) (by decide) rfl d_Code_tell_59 ?_
    refine zz_topi (y := vw_s (cs.2.2.2.2.2.1 i)) hki.2.2.2.2.1 ?_
    refine zz_ci (zz_rV (As := [.int (vw_s (cs.2.2.2.2.2.1 i))]) (rest := []) hC hK hZ 27 (c_Code_placeOf l q S pl (cs.2.2.2.2.2.1 i) (fun h => ⟨by have := (hs i hi).1 h; omega, hpl _ (by have := (hs i hi).1 h; omega)⟩)) k_Code_placeOf (Nat.le_of_ble_eq_true rfl) (xc_27 q _ _) rfl wd_469 ⟨rfl, rfl, by decide, by decide⟩ rfl hl.1 rfl (Nat.le_of_ble_eq_true rfl) d_Code_tell_60 ⟨Nat.zero_le _, Nat.zero_le _⟩) hZ (fun r60 S60 H locs hp60 hZ => ?_)
    obtain ⟨rfl, rfl⟩ := hp60
    exact zz_iret hC hK hZ rfl d_Code_tell_63 ⟨rfl, rfl⟩
  · refine lv_tableOut (tgt := 64) hx_ hb_ d_Code_tell_1 (Or.inr (by rw [nI_toInt (by omega)]; omega)) (by decide) ?_
    refine lv_aload_n hx_ hb_ d_Code_tell_64 rfl (lv_at hl 0 rfl) ?_
    refine lv_aload_n hx_ hb_ d_Code_tell_65 rfl (lv_at hl 0 rfl) ?_
    refine zz_get hC hK hZ 27 5 (Nat.le_of_ble_eq_true rfl) (xc_27 q _ _) rfl hin_Code (by decide) wd_186 rfl rfl d_Code_tell_66 ?_
    refine lv_iload_n hx_ hb_ d_Code_tell_69 rfl (lv_at hl 1 rfl) ?_
    refine zz_iald hC hK hZ 33 0 i (Nat.le_of_ble_eq_true rfl) (xc_33 q _ _) rfl rfl (by omega) (by decide) rfl d_Code_tell_70 ?_
    refine zz_topi (y := vw_s (cs.2.2.2.2.2.2.1 i)) hki.2.2.2.2.2.1 ?_
    refine zz_ci (zz_rV (As := [.int (vw_s (cs.2.2.2.2.2.2.1 i))]) (rest := []) hC hK hZ 27 (c_Code_placeOf l q S pl (cs.2.2.2.2.2.2.1 i) (fun h => ⟨by have := (hs i hi).2 h; omega, hpl _ (by have := (hs i hi).2 h; omega)⟩)) k_Code_placeOf (Nat.le_of_ble_eq_true rfl) (xc_27 q _ _) rfl wd_469 ⟨rfl, rfl, by decide, by decide⟩ rfl hl.1 rfl (Nat.le_of_ble_eq_true rfl) d_Code_tell_71 ⟨Nat.zero_le _, Nat.zero_le _⟩) hZ (fun r71 S71 H locs hp71 hZ => ?_)
    obtain ⟨rfl, rfl⟩ := hp71
    exact zz_iret hC hK hZ rfl d_Code_tell_74 ⟨rfl, by rw [show w = 4 by omega]; rfl⟩
set_option maxHeartbeats 4000000 in
set_option maxRecDepth 100000 in
theorem c_Code_execute (l : Launch) (q : xg_T) (S : zz_S) (cs : cd_T) (pl : Nat → Nat) (reg sc : Nat) (vr : Nat → Int32) (hk : xk_ok S cs) (hcd : cd_ok cs) (hpl : ∀ i, i < cs.1 → S.1 35 i = nI (pl i)) (hplo : pl_ok reg cs.2.2.2.2.2.2.2 cs.1 pl sc) (hps : ∀ i, i < cs.1 → pl i < 164) (hvr : ∀ k, k < 8 → S.1 41 k = vr k) (hops : ∀ i, i < cs.1 → cs.2.2.2.1 i ≤ 8 ∧ (cs.2.2.2.1 i = 1 → cs.2.2.2.2.1 i = nI (cs.2.2.2.2.1 i).toNatClampNeg ∧ (cs.2.2.2.2.1 i).toNatClampNeg < 8)) : Met l y_Code_execute (Cond.code y_Code_execute b_Code_execute 5 (some .int) :: zz_tbl) rm_Code_execute (zz_Pc [.ref (zz_ad (xg_G q) 27), .ref (zz_ad (xg_G q) 41)] (xg_G q) S) (va_Qi (fun ans S1 => zz_off (fun c => c = 36) S S1 ∧ ((cs.1 = 0 ∧ ans = nI 0) ∨ (cs.1 ≠ 0 ∧ ∃ res, ex_ok vr cs res ∧ ans = res (cs.1 - 1)))) (zz_P (xg_G q)) (zz_A (xg_G q))) 0 0 (zz_A (xg_G q)) := by
  refine zz_met (by decide) (Nat.le_of_ble_eq_true rfl) ?_
  intro p_ e_ s_ m_ bl_ mt_ c_ ls hC hK hZ hl
  have hC : zz_C p_ s_ m_ _ mt_ c_ b_Code_execute 5 (some .int) "TreeCoverForge$Code" := hC
  have hx_ := hC.1
  have hb_ := hC.2.1
  have hl : lv_has ls 5 [(0, .ref (zz_ad (xg_G q) 27)), (1, .ref (zz_ad (xg_G q) 41))] := hl
  have hn160 := hk.2.1
  have L11_ : ∀ (n_ : Nat) (i : Nat) (Si : zz_S) (res : Nat → Int32) (H : Heap) (locs : List Loc) (ls : Array Slot) (hn0 : cs.1 ≠ 0) (hi : i ≤ cs.1) (ho : zz_off (fun c => c = 36) S Si) (he : ∀ j, j < i → res j = ex_cal vr (cs.2.2.2.1 j) (cs.2.2.2.2.1 j) (ex_src res (cs.2.2.2.2.2.1 j)) (ex_src res (cs.2.2.2.2.2.2.1 j))) (hm : ex_mem cs.2.2.2.2.2.2.2 pl res (Si.1 36) i) (hZ : zz_Z (xg_G q) Si s_.heap H locs) (hl : lv_has ls 5 [(0, .ref (zz_ad (xg_G q) 27)), (1, .ref (zz_ad (xg_G q) 41)), (2, .int (nI i))]) (hn_ : cs.1 - i = n_), W p_ l e_ rm_Code_execute s_ m_ ([.ref (zz_ad (xg_G q) 27), .ref (zz_ad (xg_G q) 41)] : List Value).toArray bl_ mt_ c_ H locs 0 0 (MQ bl_ (va_Qi (fun ans S1 => zz_off (fun c => c = 36) S S1 ∧ ((cs.1 = 0 ∧ ans = nI 0) ∨ (cs.1 ≠ 0 ∧ ∃ res, ex_ok vr cs res ∧ ans = res (cs.1 - 1)))) (zz_P (xg_G q)) (zz_A (xg_G q))) ([.ref (zz_ad (xg_G q) 27), .ref (zz_ad (xg_G q) 41)] : List Value).toArray s_ 0 0 (zz_A (xg_G q))) (F0 m_ 11 ls []) := by
    intro n_
    induction n_ using Nat.strongRecOn with
    | ind n_ ih_ =>
      intro i Si res H locs ls hn0 hi ho he hm hZ hl hn_
      have e : ∀ c, c ≠ 36 → Si.1 c = S.1 c := fun c hc => (ho c hc).1
      have hki : xk_ok Si cs := by
        unfold xk_ok
        rw [e 27 (by omega), e 28 (by omega), e 29 (by omega), e 30 (by omega), e 31 (by omega), e 32 (by omega), e 33 (by omega), e 34 (by omega)]
        exact hk
      have hpli : ∀ i, i < cs.1 → Si.1 35 i = nI (pl i) := fun i hi => by
        rw [e 35 (by omega)]
        exact hpl i hi
      have hvi : ∀ k, k < 8 → Si.1 41 k = vr k := fun k hk => by
        rw [e 41 (by omega)]
        exact hvr k hk
      refine lv_iload_n hx_ hb_ d_Code_execute_11 rfl (lv_at hl 2 rfl) ?_
      refine lv_aload_n hx_ hb_ d_Code_execute_12 rfl (lv_at hl 0 rfl) ?_
      refine zz_get hC hK hZ 27 13 (Nat.le_of_ble_eq_true rfl) (xc_27 q _ _) rfl hin_Code (by decide) wd_194 rfl rfl d_Code_execute_13 ?_
      refine zz_topi (y := nI cs.1) hki.1 ?_
      refine zz_jge (tgt := 120) hC d_Code_execute_16 (by decide) (by omega) (by omega) (fun h16 => ?_) (fun h16 => ?_)
      · refine lv_aload_n hx_ hb_ d_Code_execute_120 rfl (lv_at hl 0 rfl) ?_
        refine zz_get hC hK hZ 27 8 (Nat.le_of_ble_eq_true rfl) (xc_27 q _ _) rfl hin_Code (by decide) wd_189 rfl rfl d_Code_execute_121 ?_
        refine lv_aload_n hx_ hb_ d_Code_execute_124 rfl (lv_at hl 0 rfl) ?_
        refine zz_get hC hK hZ 27 7 (Nat.le_of_ble_eq_true rfl) (xc_27 q _ _) rfl hin_Code (by decide) wd_188 rfl rfl d_Code_execute_125 ?_
        refine lv_aload_n hx_ hb_ d_Code_execute_128 rfl (lv_at hl 0 rfl) ?_
        refine zz_get hC hK hZ 27 13 (Nat.le_of_ble_eq_true rfl) (xc_27 q _ _) rfl hin_Code (by decide) wd_194 rfl rfl d_Code_execute_129 ?_
        refine zz_topi (y := nI cs.1) hki.1 ?_
        refine lv_iconst (v := nI 1) hx_ hb_ d_Code_execute_132 (by decide) ?_
        refine lv_isub hx_ hb_ d_Code_execute_133 ?_
        refine zz_topi (y := nI (cs.1 - 1)) (pk_sub (by omega)) ?_
        refine zz_iald hC hK hZ 35 0 (cs.1 - 1) (Nat.le_of_ble_eq_true rfl) (xc_35 q _ _) rfl rfl (by omega) (by decide) rfl d_Code_execute_134 ?_
        refine zz_topi (y := nI (pl (cs.1 - 1))) (hpli _ (by omega)) ?_
        refine zz_iald hC hK hZ 36 0 (pl (cs.1 - 1)) (Nat.le_of_ble_eq_true rfl) (xc_36 q _ _) rfl rfl (hps _ (by omega)) (by decide) rfl d_Code_execute_135 ?_
        refine zz_topi (y := res (cs.1 - 1)) (by rw [show cs.1 = i by omega]; exact hm.2 (by omega)) ?_
        exact zz_iret hC hK hZ rfl d_Code_execute_136 ⟨ho, Or.inr ⟨hn0, res, fun j hj => he j (by omega), rfl⟩⟩
      · have hkk := hki.2.2 i (by omega)
        have hop := hops i (by omega)
        have hsa := (hcd i (by omega)).2.2.1
        have hsb := (hcd i (by omega)).2.2.2
        have hgo := ex_go hcd (by omega) hplo he hm (v := ex_cal vr (cs.2.2.2.1 i) (cs.2.2.2.2.1 i) (ex_src res (cs.2.2.2.2.2.1 i)) (ex_src res (cs.2.2.2.2.2.2.1 i))) rfl
        refine lv_aload_n hx_ hb_ d_Code_execute_19 rfl (lv_at hl 0 rfl) ?_
        refine zz_get hC hK hZ 27 4 (Nat.le_of_ble_eq_true rfl) (xc_27 q _ _) rfl hin_Code (by decide) wd_185 rfl rfl d_Code_execute_20 ?_
        refine lv_iload_n hx_ hb_ d_Code_execute_23 rfl (lv_at hl 2 rfl) ?_
        refine zz_iald hC hK hZ 32 0 i (Nat.le_of_ble_eq_true rfl) (xc_32 q _ _) rfl rfl (by omega) (by decide) rfl d_Code_execute_24 ?_
        refine zz_topi (y := vw_s (cs.2.2.2.2.2.1 i)) hkk.2.2.2.2.1 ?_
        refine lv_bipush (v := (-3)) hx_ hb_ d_Code_execute_25 (by decide) ?_
        refine zz_rjne (tgt := 34) hC d_Code_execute_27 (by decide) (fun h27 => ?_) (fun h27 => ?_)
        · refine lv_aload_n hx_ hb_ d_Code_execute_34 rfl (lv_at hl 0 rfl) ?_
          refine zz_get hC hK hZ 27 8 (Nat.le_of_ble_eq_true rfl) (xc_27 q _ _) rfl hin_Code (by decide) wd_189 rfl rfl d_Code_execute_35 ?_
          refine lv_aload_n hx_ hb_ d_Code_execute_38 rfl (lv_at hl 0 rfl) ?_
          refine zz_get hC hK hZ 27 7 (Nat.le_of_ble_eq_true rfl) (xc_27 q _ _) rfl hin_Code (by decide) wd_188 rfl rfl d_Code_execute_39 ?_
          refine lv_aload_n hx_ hb_ d_Code_execute_42 rfl (lv_at hl 0 rfl) ?_
          refine zz_get hC hK hZ 27 4 (Nat.le_of_ble_eq_true rfl) (xc_27 q _ _) rfl hin_Code (by decide) wd_185 rfl rfl d_Code_execute_43 ?_
          refine lv_iload_n hx_ hb_ d_Code_execute_46 rfl (lv_at hl 2 rfl) ?_
          refine zz_iald hC hK hZ 32 0 i (Nat.le_of_ble_eq_true rfl) (xc_32 q _ _) rfl rfl (by omega) (by decide) rfl d_Code_execute_47 ?_
          refine zz_topi (y := vw_s (cs.2.2.2.2.2.1 i)) hkk.2.2.2.2.1 ?_
          refine zz_iald hC hK hZ 35 0 (cs.2.2.2.2.2.1 i) (Nat.le_of_ble_eq_true rfl) (xc_35 q _ _) rfl (vw_s_in (vw_s_ne h27)) (by have := hsa (vw_s_ne h27); omega) (by decide) rfl d_Code_execute_48 ?_
          refine zz_topi (y := nI (pl (cs.2.2.2.2.2.1 i))) (hpli _ (by have := hsa (vw_s_ne h27); omega)) ?_
          refine zz_iald hC hK hZ 36 0 (pl (cs.2.2.2.2.2.1 i)) (Nat.le_of_ble_eq_true rfl) (xc_36 q _ _) rfl rfl (hps _ (by have := hsa (vw_s_ne h27); omega)) (by decide) rfl d_Code_execute_49 ?_
          refine zz_topi (y := ex_src res (cs.2.2.2.2.2.1 i)) (by rw [ex_src, if_pos (vw_s_ne h27)]; exact hm.1 _ (by have := hsa (vw_s_ne h27); omega) (hsa (vw_s_ne h27)).2) ?_
          refine lv_istore_n (i := 3) (lv' := [(3, .int (ex_src res (cs.2.2.2.2.2.1 i))), (0, .ref (zz_ad (xg_G q) 27)), (1, .ref (zz_ad (xg_G q) 41)), (2, .int (nI i))]) hx_ hb_ d_Code_execute_50 rfl hl (by decide) rfl (fun ls hl => ?_)
          refine lv_aload_n hx_ hb_ d_Code_execute_51 rfl (lv_at hl 1 rfl) ?_
          refine zz_get hC hK hZ 27 5 (Nat.le_of_ble_eq_true rfl) (xc_27 q _ _) rfl hin_Code (by decide) wd_186 rfl rfl d_Code_execute_52 ?_
          refine lv_iload_n hx_ hb_ d_Code_execute_55 rfl (lv_at hl 3 rfl) ?_
          refine zz_iald hC hK hZ 33 0 i (Nat.le_of_ble_eq_true rfl) (xc_33 q _ _) rfl rfl (by omega) (by decide) rfl d_Code_execute_56 ?_
          refine zz_topi (y := vw_s (cs.2.2.2.2.2.2.1 i)) hkk.2.2.2.2.2.1 ?_
          refine lv_bipush (v := (-3)) hx_ hb_ d_Code_execute_57 (by decide) ?_
          refine zz_rjne (tgt := 66) hC d_Code_execute_59 (by decide) (fun h59 => ?_) (fun h59 => ?_)
          · refine lv_aload_n hx_ hb_ d_Code_execute_66 rfl (lv_at hl 1 rfl) ?_
            refine zz_get hC hK hZ 27 8 (Nat.le_of_ble_eq_true rfl) (xc_27 q _ _) rfl hin_Code (by decide) wd_189 rfl rfl d_Code_execute_67 ?_
            refine lv_aload_n hx_ hb_ d_Code_execute_70 rfl (lv_at hl 1 rfl) ?_
            refine zz_get hC hK hZ 27 7 (Nat.le_of_ble_eq_true rfl) (xc_27 q _ _) rfl hin_Code (by decide) wd_188 rfl rfl d_Code_execute_71 ?_
            refine lv_aload_n hx_ hb_ d_Code_execute_74 rfl (lv_at hl 1 rfl) ?_
            refine zz_get hC hK hZ 27 5 (Nat.le_of_ble_eq_true rfl) (xc_27 q _ _) rfl hin_Code (by decide) wd_186 rfl rfl d_Code_execute_75 ?_
            refine lv_iload_n hx_ hb_ d_Code_execute_78 rfl (lv_at hl 3 rfl) ?_
            refine zz_iald hC hK hZ 33 0 i (Nat.le_of_ble_eq_true rfl) (xc_33 q _ _) rfl rfl (by omega) (by decide) rfl d_Code_execute_79 ?_
            refine zz_topi (y := vw_s (cs.2.2.2.2.2.2.1 i)) hkk.2.2.2.2.2.1 ?_
            refine zz_iald hC hK hZ 35 0 (cs.2.2.2.2.2.2.1 i) (Nat.le_of_ble_eq_true rfl) (xc_35 q _ _) rfl (vw_s_in (vw_s_ne h59)) (by have := hsb (vw_s_ne h59); omega) (by decide) rfl d_Code_execute_80 ?_
            refine zz_topi (y := nI (pl (cs.2.2.2.2.2.2.1 i))) (hpli _ (by have := hsb (vw_s_ne h59); omega)) ?_
            refine zz_iald hC hK hZ 36 0 (pl (cs.2.2.2.2.2.2.1 i)) (Nat.le_of_ble_eq_true rfl) (xc_36 q _ _) rfl rfl (hps _ (by have := hsb (vw_s_ne h59); omega)) (by decide) rfl d_Code_execute_81 ?_
            refine zz_topi (y := ex_src res (cs.2.2.2.2.2.2.1 i)) (by rw [ex_src, if_pos (vw_s_ne h59)]; exact hm.1 _ (by have := hsb (vw_s_ne h59); omega) (hsb (vw_s_ne h59)).2) ?_
            refine lv_istore (i := 4) (lv' := [(4, .int (ex_src res (cs.2.2.2.2.2.2.1 i))), (3, .int (ex_src res (cs.2.2.2.2.2.1 i))), (0, .ref (zz_ad (xg_G q) 27)), (1, .ref (zz_ad (xg_G q) 41)), (2, .int (nI i))]) hx_ hb_ d_Code_execute_82 hl (by decide) rfl (fun ls hl => ?_)
            refine lv_aload_n hx_ hb_ d_Code_execute_84 rfl (lv_at hl 2 rfl) ?_
            refine zz_get hC hK hZ 27 8 (Nat.le_of_ble_eq_true rfl) (xc_27 q _ _) rfl hin_Code (by decide) wd_189 rfl rfl d_Code_execute_85 ?_
            refine lv_aload_n hx_ hb_ d_Code_execute_88 rfl (lv_at hl 2 rfl) ?_
            refine zz_get hC hK hZ 27 7 (Nat.le_of_ble_eq_true rfl) (xc_27 q _ _) rfl hin_Code (by decide) wd_188 rfl rfl d_Code_execute_89 ?_
            refine lv_iload_n hx_ hb_ d_Code_execute_92 rfl (lv_at hl 4 rfl) ?_
            refine zz_iald hC hK hZ 35 0 i (Nat.le_of_ble_eq_true rfl) (xc_35 q _ _) rfl rfl (by omega) (by decide) rfl d_Code_execute_93 ?_
            refine zz_topi (y := nI (pl i)) (hpli i (by omega)) ?_
            refine lv_aload_n hx_ hb_ d_Code_execute_94 rfl (lv_at hl 2 rfl) ?_
            refine zz_get hC hK hZ 27 2 (Nat.le_of_ble_eq_true rfl) (xc_27 q _ _) rfl hin_Code (by decide) wd_183 rfl rfl d_Code_execute_95 ?_
            refine lv_iload_n hx_ hb_ d_Code_execute_98 rfl (lv_at hl 4 rfl) ?_
            refine zz_iald hC hK hZ 30 0 i (Nat.le_of_ble_eq_true rfl) (xc_30 q _ _) rfl rfl (by omega) (by decide) rfl d_Code_execute_99 ?_
            refine zz_topi (y := nI (cs.2.2.2.1 i)) hkk.2.2.1 ?_
            refine lv_aload_n hx_ hb_ d_Code_execute_100 rfl (lv_at hl 2 rfl) ?_
            refine zz_get hC hK hZ 27 3 (Nat.le_of_ble_eq_true rfl) (xc_27 q _ _) rfl hin_Code (by decide) wd_184 rfl rfl d_Code_execute_101 ?_
            refine lv_iload_n hx_ hb_ d_Code_execute_104 rfl (lv_at hl 4 rfl) ?_
            refine zz_iald hC hK hZ 31 0 i (Nat.le_of_ble_eq_true rfl) (xc_31 q _ _) rfl rfl (by omega) (by decide) rfl d_Code_execute_105 ?_
            refine zz_topi (y := cs.2.2.2.2.1 i) hkk.2.2.2.1 ?_
            refine lv_iload_n hx_ hb_ d_Code_execute_106 rfl (lv_at hl 1 rfl) ?_
            refine lv_iload hx_ hb_ d_Code_execute_107 (lv_at hl 0 rfl) ?_
            refine lv_aload_n hx_ hb_ d_Code_execute_109 rfl (lv_at hl 3 rfl) ?_
            refine zz_ci (zz_rSN (As := [.int (nI (cs.2.2.2.1 i)), .int (cs.2.2.2.2.1 i), .int (ex_src res (cs.2.2.2.2.2.1 i)), .int (ex_src res (cs.2.2.2.2.2.2.1 i)), .ref (zz_ad (xg_G q) 41)]) (rest := [.int (nI (pl i)), .ref (zz_ad (xg_G q) 36)]) hC hK hZ (c_Forge_resultOf l q Si (cs.2.2.2.1 i) (cs.2.2.2.2.1 i) (ex_src res (cs.2.2.2.2.2.1 i)) (ex_src res (cs.2.2.2.2.2.2.1 i)) hop.1 hop.2) k_Forge_resultOf wd_489 ⟨rfl, rfl, by decide, by decide⟩ rfl hl.1 rfl (Nat.le_of_ble_eq_true rfl) d_Code_execute_110 ⟨Nat.zero_le _, Nat.zero_le _⟩) hZ (fun r110 S110 H locs hp110 hZ => ?_)
            obtain ⟨rfl, rfl⟩ := hp110
            rw [ex_cv (hvi : ∀ k, k < 8 → Si.1 41 k = vr k) hop.2]
            refine zz_iast hC hK hZ 36 0 (pl i) (Nat.le_of_ble_eq_true rfl) (fun _ => xc_36 q _ _) rfl rfl (hps i (by omega)) (by decide) d_Code_execute_113 (fun H locs hZ => ?_)
            refine lv_iinc (k := 4) (v := nI (i + 1)) (lv' := [(2, .int (nI (i + 1))), (4, .int (ex_src res (cs.2.2.2.2.2.2.1 i))), (3, .int (ex_src res (cs.2.2.2.2.2.1 i))), (0, .ref (zz_ad (xg_G q) 27)), (1, .ref (zz_ad (xg_G q) 41))]) hx_ hb_ d_Code_execute_114 hl rfl (nI_add _ 1) (by decide) rfl (fun ls hl => ?_)
            refine lv_goto (tgt := 11) hx_ hb_ d_Code_execute_117 (by decide) ?_
            exact ih_ _ (by omega) (i + 1) (zz_u Si 36 (pl i) (ex_cal vr (cs.2.2.2.1 i) (cs.2.2.2.2.1 i) (ex_src res (cs.2.2.2.2.2.1 i)) (ex_src res (cs.2.2.2.2.2.2.1 i)))) (upd res i (ex_cal vr (cs.2.2.2.1 i) (cs.2.2.2.2.1 i) (ex_src res (cs.2.2.2.2.2.1 i)) (ex_src res (cs.2.2.2.2.2.2.1 i))))  _ _ _ hn0 (by omega) (zz_off_tr ho (fun d hd => ⟨zz_u1 Si 36 _ _ d hd, rfl⟩)) hgo.1 (by
              rw [zz_u1s]
              exact hgo.2) hZ (lv_sub hl [3, 4, 0] rfl) rfl
          · refine lv_iconst (v := nI 0) hx_ hb_ d_Code_execute_62 (by decide) ?_
            refine zz_topi (y := ex_src res (cs.2.2.2.2.2.2.1 i)) (by rw [ex_src, if_neg (vw_s_eq h59)]; rfl) ?_
            refine lv_goto (tgt := 82) hx_ hb_ d_Code_execute_63 (by decide) ?_
            refine lv_istore (i := 4) (lv' := [(4, .int (ex_src res (cs.2.2.2.2.2.2.1 i))), (3, .int (ex_src res (cs.2.2.2.2.2.1 i))), (0, .ref (zz_ad (xg_G q) 27)), (1, .ref (zz_ad (xg_G q) 41)), (2, .int (nI i))]) hx_ hb_ d_Code_execute_82 hl (by decide) rfl (fun ls hl => ?_)
            refine lv_aload_n hx_ hb_ d_Code_execute_84 rfl (lv_at hl 2 rfl) ?_
            refine zz_get hC hK hZ 27 8 (Nat.le_of_ble_eq_true rfl) (xc_27 q _ _) rfl hin_Code (by decide) wd_189 rfl rfl d_Code_execute_85 ?_
            refine lv_aload_n hx_ hb_ d_Code_execute_88 rfl (lv_at hl 2 rfl) ?_
            refine zz_get hC hK hZ 27 7 (Nat.le_of_ble_eq_true rfl) (xc_27 q _ _) rfl hin_Code (by decide) wd_188 rfl rfl d_Code_execute_89 ?_
            refine lv_iload_n hx_ hb_ d_Code_execute_92 rfl (lv_at hl 4 rfl) ?_
            refine zz_iald hC hK hZ 35 0 i (Nat.le_of_ble_eq_true rfl) (xc_35 q _ _) rfl rfl (by omega) (by decide) rfl d_Code_execute_93 ?_
            refine zz_topi (y := nI (pl i)) (hpli i (by omega)) ?_
            refine lv_aload_n hx_ hb_ d_Code_execute_94 rfl (lv_at hl 2 rfl) ?_
            refine zz_get hC hK hZ 27 2 (Nat.le_of_ble_eq_true rfl) (xc_27 q _ _) rfl hin_Code (by decide) wd_183 rfl rfl d_Code_execute_95 ?_
            refine lv_iload_n hx_ hb_ d_Code_execute_98 rfl (lv_at hl 4 rfl) ?_
            refine zz_iald hC hK hZ 30 0 i (Nat.le_of_ble_eq_true rfl) (xc_30 q _ _) rfl rfl (by omega) (by decide) rfl d_Code_execute_99 ?_
            refine zz_topi (y := nI (cs.2.2.2.1 i)) hkk.2.2.1 ?_
            refine lv_aload_n hx_ hb_ d_Code_execute_100 rfl (lv_at hl 2 rfl) ?_
            refine zz_get hC hK hZ 27 3 (Nat.le_of_ble_eq_true rfl) (xc_27 q _ _) rfl hin_Code (by decide) wd_184 rfl rfl d_Code_execute_101 ?_
            refine lv_iload_n hx_ hb_ d_Code_execute_104 rfl (lv_at hl 4 rfl) ?_
            refine zz_iald hC hK hZ 31 0 i (Nat.le_of_ble_eq_true rfl) (xc_31 q _ _) rfl rfl (by omega) (by decide) rfl d_Code_execute_105 ?_
            refine zz_topi (y := cs.2.2.2.2.1 i) hkk.2.2.2.1 ?_
            refine lv_iload_n hx_ hb_ d_Code_execute_106 rfl (lv_at hl 1 rfl) ?_
            refine lv_iload hx_ hb_ d_Code_execute_107 (lv_at hl 0 rfl) ?_
            refine lv_aload_n hx_ hb_ d_Code_execute_109 rfl (lv_at hl 3 rfl) ?_
            refine zz_ci (zz_rSN (As := [.int (nI (cs.2.2.2.1 i)), .int (cs.2.2.2.2.1 i), .int (ex_src res (cs.2.2.2.2.2.1 i)), .int (ex_src res (cs.2.2.2.2.2.2.1 i)), .ref (zz_ad (xg_G q) 41)]) (rest := [.int (nI (pl i)), .ref (zz_ad (xg_G q) 36)]) hC hK hZ (c_Forge_resultOf l q Si (cs.2.2.2.1 i) (cs.2.2.2.2.1 i) (ex_src res (cs.2.2.2.2.2.1 i)) (ex_src res (cs.2.2.2.2.2.2.1 i)) hop.1 hop.2) k_Forge_resultOf wd_489 ⟨rfl, rfl, by decide, by decide⟩ rfl hl.1 rfl (Nat.le_of_ble_eq_true rfl) d_Code_execute_110 ⟨Nat.zero_le _, Nat.zero_le _⟩) hZ (fun r110 S110 H locs hp110 hZ => ?_)
            obtain ⟨rfl, rfl⟩ := hp110
            rw [ex_cv (hvi : ∀ k, k < 8 → Si.1 41 k = vr k) hop.2]
            refine zz_iast hC hK hZ 36 0 (pl i) (Nat.le_of_ble_eq_true rfl) (fun _ => xc_36 q _ _) rfl rfl (hps i (by omega)) (by decide) d_Code_execute_113 (fun H locs hZ => ?_)
            refine lv_iinc (k := 4) (v := nI (i + 1)) (lv' := [(2, .int (nI (i + 1))), (4, .int (ex_src res (cs.2.2.2.2.2.2.1 i))), (3, .int (ex_src res (cs.2.2.2.2.2.1 i))), (0, .ref (zz_ad (xg_G q) 27)), (1, .ref (zz_ad (xg_G q) 41))]) hx_ hb_ d_Code_execute_114 hl rfl (nI_add _ 1) (by decide) rfl (fun ls hl => ?_)
            refine lv_goto (tgt := 11) hx_ hb_ d_Code_execute_117 (by decide) ?_
            exact ih_ _ (by omega) (i + 1) (zz_u Si 36 (pl i) (ex_cal vr (cs.2.2.2.1 i) (cs.2.2.2.2.1 i) (ex_src res (cs.2.2.2.2.2.1 i)) (ex_src res (cs.2.2.2.2.2.2.1 i)))) (upd res i (ex_cal vr (cs.2.2.2.1 i) (cs.2.2.2.2.1 i) (ex_src res (cs.2.2.2.2.2.1 i)) (ex_src res (cs.2.2.2.2.2.2.1 i))))  _ _ _ hn0 (by omega) (zz_off_tr ho (fun d hd => ⟨zz_u1 Si 36 _ _ d hd, rfl⟩)) hgo.1 (by
              rw [zz_u1s]
              exact hgo.2) hZ (lv_sub hl [3, 4, 0] rfl) rfl
        · refine lv_iconst (v := nI 0) hx_ hb_ d_Code_execute_30 (by decide) ?_
          refine zz_topi (y := ex_src res (cs.2.2.2.2.2.1 i)) (by rw [ex_src, if_neg (vw_s_eq h27)]; rfl) ?_
          refine lv_goto (tgt := 50) hx_ hb_ d_Code_execute_31 (by decide) ?_
          refine lv_istore_n (i := 3) (lv' := [(3, .int (ex_src res (cs.2.2.2.2.2.1 i))), (0, .ref (zz_ad (xg_G q) 27)), (1, .ref (zz_ad (xg_G q) 41)), (2, .int (nI i))]) hx_ hb_ d_Code_execute_50 rfl hl (by decide) rfl (fun ls hl => ?_)
          refine lv_aload_n hx_ hb_ d_Code_execute_51 rfl (lv_at hl 1 rfl) ?_
          refine zz_get hC hK hZ 27 5 (Nat.le_of_ble_eq_true rfl) (xc_27 q _ _) rfl hin_Code (by decide) wd_186 rfl rfl d_Code_execute_52 ?_
          refine lv_iload_n hx_ hb_ d_Code_execute_55 rfl (lv_at hl 3 rfl) ?_
          refine zz_iald hC hK hZ 33 0 i (Nat.le_of_ble_eq_true rfl) (xc_33 q _ _) rfl rfl (by omega) (by decide) rfl d_Code_execute_56 ?_
          refine zz_topi (y := vw_s (cs.2.2.2.2.2.2.1 i)) hkk.2.2.2.2.2.1 ?_
          refine lv_bipush (v := (-3)) hx_ hb_ d_Code_execute_57 (by decide) ?_
          refine zz_rjne (tgt := 66) hC d_Code_execute_59 (by decide) (fun h59 => ?_) (fun h59 => ?_)
          · refine lv_aload_n hx_ hb_ d_Code_execute_66 rfl (lv_at hl 1 rfl) ?_
            refine zz_get hC hK hZ 27 8 (Nat.le_of_ble_eq_true rfl) (xc_27 q _ _) rfl hin_Code (by decide) wd_189 rfl rfl d_Code_execute_67 ?_
            refine lv_aload_n hx_ hb_ d_Code_execute_70 rfl (lv_at hl 1 rfl) ?_
            refine zz_get hC hK hZ 27 7 (Nat.le_of_ble_eq_true rfl) (xc_27 q _ _) rfl hin_Code (by decide) wd_188 rfl rfl d_Code_execute_71 ?_
            refine lv_aload_n hx_ hb_ d_Code_execute_74 rfl (lv_at hl 1 rfl) ?_
            refine zz_get hC hK hZ 27 5 (Nat.le_of_ble_eq_true rfl) (xc_27 q _ _) rfl hin_Code (by decide) wd_186 rfl rfl d_Code_execute_75 ?_
            refine lv_iload_n hx_ hb_ d_Code_execute_78 rfl (lv_at hl 3 rfl) ?_
            refine zz_iald hC hK hZ 33 0 i (Nat.le_of_ble_eq_true rfl) (xc_33 q _ _) rfl rfl (by omega) (by decide) rfl d_Code_execute_79 ?_
            refine zz_topi (y := vw_s (cs.2.2.2.2.2.2.1 i)) hkk.2.2.2.2.2.1 ?_
            refine zz_iald hC hK hZ 35 0 (cs.2.2.2.2.2.2.1 i) (Nat.le_of_ble_eq_true rfl) (xc_35 q _ _) rfl (vw_s_in (vw_s_ne h59)) (by have := hsb (vw_s_ne h59); omega) (by decide) rfl d_Code_execute_80 ?_
            refine zz_topi (y := nI (pl (cs.2.2.2.2.2.2.1 i))) (hpli _ (by have := hsb (vw_s_ne h59); omega)) ?_
            refine zz_iald hC hK hZ 36 0 (pl (cs.2.2.2.2.2.2.1 i)) (Nat.le_of_ble_eq_true rfl) (xc_36 q _ _) rfl rfl (hps _ (by have := hsb (vw_s_ne h59); omega)) (by decide) rfl d_Code_execute_81 ?_
            refine zz_topi (y := ex_src res (cs.2.2.2.2.2.2.1 i)) (by rw [ex_src, if_pos (vw_s_ne h59)]; exact hm.1 _ (by have := hsb (vw_s_ne h59); omega) (hsb (vw_s_ne h59)).2) ?_
            refine lv_istore (i := 4) (lv' := [(4, .int (ex_src res (cs.2.2.2.2.2.2.1 i))), (3, .int (ex_src res (cs.2.2.2.2.2.1 i))), (0, .ref (zz_ad (xg_G q) 27)), (1, .ref (zz_ad (xg_G q) 41)), (2, .int (nI i))]) hx_ hb_ d_Code_execute_82 hl (by decide) rfl (fun ls hl => ?_)
            refine lv_aload_n hx_ hb_ d_Code_execute_84 rfl (lv_at hl 2 rfl) ?_
            refine zz_get hC hK hZ 27 8 (Nat.le_of_ble_eq_true rfl) (xc_27 q _ _) rfl hin_Code (by decide) wd_189 rfl rfl d_Code_execute_85 ?_
            refine lv_aload_n hx_ hb_ d_Code_execute_88 rfl (lv_at hl 2 rfl) ?_
            refine zz_get hC hK hZ 27 7 (Nat.le_of_ble_eq_true rfl) (xc_27 q _ _) rfl hin_Code (by decide) wd_188 rfl rfl d_Code_execute_89 ?_
            refine lv_iload_n hx_ hb_ d_Code_execute_92 rfl (lv_at hl 4 rfl) ?_
            refine zz_iald hC hK hZ 35 0 i (Nat.le_of_ble_eq_true rfl) (xc_35 q _ _) rfl rfl (by omega) (by decide) rfl d_Code_execute_93 ?_
            refine zz_topi (y := nI (pl i)) (hpli i (by omega)) ?_
            refine lv_aload_n hx_ hb_ d_Code_execute_94 rfl (lv_at hl 2 rfl) ?_
            refine zz_get hC hK hZ 27 2 (Nat.le_of_ble_eq_true rfl) (xc_27 q _ _) rfl hin_Code (by decide) wd_183 rfl rfl d_Code_execute_95 ?_
            refine lv_iload_n hx_ hb_ d_Code_execute_98 rfl (lv_at hl 4 rfl) ?_
            refine zz_iald hC hK hZ 30 0 i (Nat.le_of_ble_eq_true rfl) (xc_30 q _ _) rfl rfl (by omega) (by decide) rfl d_Code_execute_99 ?_
            refine zz_topi (y := nI (cs.2.2.2.1 i)) hkk.2.2.1 ?_
            refine lv_aload_n hx_ hb_ d_Code_execute_100 rfl (lv_at hl 2 rfl) ?_
            refine zz_get hC hK hZ 27 3 (Nat.le_of_ble_eq_true rfl) (xc_27 q _ _) rfl hin_Code (by decide) wd_184 rfl rfl d_Code_execute_101 ?_
            refine lv_iload_n hx_ hb_ d_Code_execute_104 rfl (lv_at hl 4 rfl) ?_
            refine zz_iald hC hK hZ 31 0 i (Nat.le_of_ble_eq_true rfl) (xc_31 q _ _) rfl rfl (by omega) (by decide) rfl d_Code_execute_105 ?_
            refine zz_topi (y := cs.2.2.2.2.1 i) hkk.2.2.2.1 ?_
            refine lv_iload_n hx_ hb_ d_Code_execute_106 rfl (lv_at hl 1 rfl) ?_
            refine lv_iload hx_ hb_ d_Code_execute_107 (lv_at hl 0 rfl) ?_
            refine lv_aload_n hx_ hb_ d_Code_execute_109 rfl (lv_at hl 3 rfl) ?_
            refine zz_ci (zz_rSN (As := [.int (nI (cs.2.2.2.1 i)), .int (cs.2.2.2.2.1 i), .int (ex_src res (cs.2.2.2.2.2.1 i)), .int (ex_src res (cs.2.2.2.2.2.2.1 i)), .ref (zz_ad (xg_G q) 41)]) (rest := [.int (nI (pl i)), .ref (zz_ad (xg_G q) 36)]) hC hK hZ (c_Forge_resultOf l q Si (cs.2.2.2.1 i) (cs.2.2.2.2.1 i) (ex_src res (cs.2.2.2.2.2.1 i)) (ex_src res (cs.2.2.2.2.2.2.1 i)) hop.1 hop.2) k_Forge_resultOf wd_489 ⟨rfl, rfl, by decide, by decide⟩ rfl hl.1 rfl (Nat.le_of_ble_eq_true rfl) d_Code_execute_110 ⟨Nat.zero_le _, Nat.zero_le _⟩) hZ (fun r110 S110 H locs hp110 hZ => ?_)
            obtain ⟨rfl, rfl⟩ := hp110
            rw [ex_cv (hvi : ∀ k, k < 8 → Si.1 41 k = vr k) hop.2]
            refine zz_iast hC hK hZ 36 0 (pl i) (Nat.le_of_ble_eq_true rfl) (fun _ => xc_36 q _ _) rfl rfl (hps i (by omega)) (by decide) d_Code_execute_113 (fun H locs hZ => ?_)
            refine lv_iinc (k := 4) (v := nI (i + 1)) (lv' := [(2, .int (nI (i + 1))), (4, .int (ex_src res (cs.2.2.2.2.2.2.1 i))), (3, .int (ex_src res (cs.2.2.2.2.2.1 i))), (0, .ref (zz_ad (xg_G q) 27)), (1, .ref (zz_ad (xg_G q) 41))]) hx_ hb_ d_Code_execute_114 hl rfl (nI_add _ 1) (by decide) rfl (fun ls hl => ?_)
            refine lv_goto (tgt := 11) hx_ hb_ d_Code_execute_117 (by decide) ?_
            exact ih_ _ (by omega) (i + 1) (zz_u Si 36 (pl i) (ex_cal vr (cs.2.2.2.1 i) (cs.2.2.2.2.1 i) (ex_src res (cs.2.2.2.2.2.1 i)) (ex_src res (cs.2.2.2.2.2.2.1 i)))) (upd res i (ex_cal vr (cs.2.2.2.1 i) (cs.2.2.2.2.1 i) (ex_src res (cs.2.2.2.2.2.1 i)) (ex_src res (cs.2.2.2.2.2.2.1 i))))  _ _ _ hn0 (by omega) (zz_off_tr ho (fun d hd => ⟨zz_u1 Si 36 _ _ d hd, rfl⟩)) hgo.1 (by
              rw [zz_u1s]
              exact hgo.2) hZ (lv_sub hl [3, 4, 0] rfl) rfl
          · refine lv_iconst (v := nI 0) hx_ hb_ d_Code_execute_62 (by decide) ?_
            refine zz_topi (y := ex_src res (cs.2.2.2.2.2.2.1 i)) (by rw [ex_src, if_neg (vw_s_eq h59)]; rfl) ?_
            refine lv_goto (tgt := 82) hx_ hb_ d_Code_execute_63 (by decide) ?_
            refine lv_istore (i := 4) (lv' := [(4, .int (ex_src res (cs.2.2.2.2.2.2.1 i))), (3, .int (ex_src res (cs.2.2.2.2.2.1 i))), (0, .ref (zz_ad (xg_G q) 27)), (1, .ref (zz_ad (xg_G q) 41)), (2, .int (nI i))]) hx_ hb_ d_Code_execute_82 hl (by decide) rfl (fun ls hl => ?_)
            refine lv_aload_n hx_ hb_ d_Code_execute_84 rfl (lv_at hl 2 rfl) ?_
            refine zz_get hC hK hZ 27 8 (Nat.le_of_ble_eq_true rfl) (xc_27 q _ _) rfl hin_Code (by decide) wd_189 rfl rfl d_Code_execute_85 ?_
            refine lv_aload_n hx_ hb_ d_Code_execute_88 rfl (lv_at hl 2 rfl) ?_
            refine zz_get hC hK hZ 27 7 (Nat.le_of_ble_eq_true rfl) (xc_27 q _ _) rfl hin_Code (by decide) wd_188 rfl rfl d_Code_execute_89 ?_
            refine lv_iload_n hx_ hb_ d_Code_execute_92 rfl (lv_at hl 4 rfl) ?_
            refine zz_iald hC hK hZ 35 0 i (Nat.le_of_ble_eq_true rfl) (xc_35 q _ _) rfl rfl (by omega) (by decide) rfl d_Code_execute_93 ?_
            refine zz_topi (y := nI (pl i)) (hpli i (by omega)) ?_
            refine lv_aload_n hx_ hb_ d_Code_execute_94 rfl (lv_at hl 2 rfl) ?_
            refine zz_get hC hK hZ 27 2 (Nat.le_of_ble_eq_true rfl) (xc_27 q _ _) rfl hin_Code (by decide) wd_183 rfl rfl d_Code_execute_95 ?_
            refine lv_iload_n hx_ hb_ d_Code_execute_98 rfl (lv_at hl 4 rfl) ?_
            refine zz_iald hC hK hZ 30 0 i (Nat.le_of_ble_eq_true rfl) (xc_30 q _ _) rfl rfl (by omega) (by decide) rfl d_Code_execute_99 ?_
            refine zz_topi (y := nI (cs.2.2.2.1 i)) hkk.2.2.1 ?_
            refine lv_aload_n hx_ hb_ d_Code_execute_100 rfl (lv_at hl 2 rfl) ?_
            refine zz_get hC hK hZ 27 3 (Nat.le_of_ble_eq_true rfl) (xc_27 q _ _) rfl hin_Code (by decide) wd_184 rfl rfl d_Code_execute_101 ?_
            refine lv_iload_n hx_ hb_ d_Code_execute_104 rfl (lv_at hl 4 rfl) ?_
            refine zz_iald hC hK hZ 31 0 i (Nat.le_of_ble_eq_true rfl) (xc_31 q _ _) rfl rfl (by omega) (by decide) rfl d_Code_execute_105 ?_
            refine zz_topi (y := cs.2.2.2.2.1 i) hkk.2.2.2.1 ?_
            refine lv_iload_n hx_ hb_ d_Code_execute_106 rfl (lv_at hl 1 rfl) ?_
            refine lv_iload hx_ hb_ d_Code_execute_107 (lv_at hl 0 rfl) ?_
            refine lv_aload_n hx_ hb_ d_Code_execute_109 rfl (lv_at hl 3 rfl) ?_
            refine zz_ci (zz_rSN (As := [.int (nI (cs.2.2.2.1 i)), .int (cs.2.2.2.2.1 i), .int (ex_src res (cs.2.2.2.2.2.1 i)), .int (ex_src res (cs.2.2.2.2.2.2.1 i)), .ref (zz_ad (xg_G q) 41)]) (rest := [.int (nI (pl i)), .ref (zz_ad (xg_G q) 36)]) hC hK hZ (c_Forge_resultOf l q Si (cs.2.2.2.1 i) (cs.2.2.2.2.1 i) (ex_src res (cs.2.2.2.2.2.1 i)) (ex_src res (cs.2.2.2.2.2.2.1 i)) hop.1 hop.2) k_Forge_resultOf wd_489 ⟨rfl, rfl, by decide, by decide⟩ rfl hl.1 rfl (Nat.le_of_ble_eq_true rfl) d_Code_execute_110 ⟨Nat.zero_le _, Nat.zero_le _⟩) hZ (fun r110 S110 H locs hp110 hZ => ?_)
            obtain ⟨rfl, rfl⟩ := hp110
            rw [ex_cv (hvi : ∀ k, k < 8 → Si.1 41 k = vr k) hop.2]
            refine zz_iast hC hK hZ 36 0 (pl i) (Nat.le_of_ble_eq_true rfl) (fun _ => xc_36 q _ _) rfl rfl (hps i (by omega)) (by decide) d_Code_execute_113 (fun H locs hZ => ?_)
            refine lv_iinc (k := 4) (v := nI (i + 1)) (lv' := [(2, .int (nI (i + 1))), (4, .int (ex_src res (cs.2.2.2.2.2.2.1 i))), (3, .int (ex_src res (cs.2.2.2.2.2.1 i))), (0, .ref (zz_ad (xg_G q) 27)), (1, .ref (zz_ad (xg_G q) 41))]) hx_ hb_ d_Code_execute_114 hl rfl (nI_add _ 1) (by decide) rfl (fun ls hl => ?_)
            refine lv_goto (tgt := 11) hx_ hb_ d_Code_execute_117 (by decide) ?_
            exact ih_ _ (by omega) (i + 1) (zz_u Si 36 (pl i) (ex_cal vr (cs.2.2.2.1 i) (cs.2.2.2.2.1 i) (ex_src res (cs.2.2.2.2.2.1 i)) (ex_src res (cs.2.2.2.2.2.2.1 i)))) (upd res i (ex_cal vr (cs.2.2.2.1 i) (cs.2.2.2.2.1 i) (ex_src res (cs.2.2.2.2.2.1 i)) (ex_src res (cs.2.2.2.2.2.2.1 i))))  _ _ _ hn0 (by omega) (zz_off_tr ho (fun d hd => ⟨zz_u1 Si 36 _ _ d hd, rfl⟩)) hgo.1 (by
              rw [zz_u1s]
              exact hgo.2) hZ (lv_sub hl [3, 4, 0] rfl) rfl
  have L11 : ∀ (i : Nat) (Si : zz_S) (res : Nat → Int32) (H : Heap) (locs : List Loc) (ls : Array Slot) (hn0 : cs.1 ≠ 0) (hi : i ≤ cs.1) (ho : zz_off (fun c => c = 36) S Si) (he : ∀ j, j < i → res j = ex_cal vr (cs.2.2.2.1 j) (cs.2.2.2.2.1 j) (ex_src res (cs.2.2.2.2.2.1 j)) (ex_src res (cs.2.2.2.2.2.2.1 j))) (hm : ex_mem cs.2.2.2.2.2.2.2 pl res (Si.1 36) i) (hZ : zz_Z (xg_G q) Si s_.heap H locs) (hl : lv_has ls 5 [(0, .ref (zz_ad (xg_G q) 27)), (1, .ref (zz_ad (xg_G q) 41)), (2, .int (nI i))]), W p_ l e_ rm_Code_execute s_ m_ ([.ref (zz_ad (xg_G q) 27), .ref (zz_ad (xg_G q) 41)] : List Value).toArray bl_ mt_ c_ H locs 0 0 (MQ bl_ (va_Qi (fun ans S1 => zz_off (fun c => c = 36) S S1 ∧ ((cs.1 = 0 ∧ ans = nI 0) ∨ (cs.1 ≠ 0 ∧ ∃ res, ex_ok vr cs res ∧ ans = res (cs.1 - 1)))) (zz_P (xg_G q)) (zz_A (xg_G q))) ([.ref (zz_ad (xg_G q) 27), .ref (zz_ad (xg_G q) 41)] : List Value).toArray s_ 0 0 (zz_A (xg_G q))) (F0 m_ 11 ls []) := fun i Si res H locs ls hn0 hi ho he hm hZ hl => L11_ _ i Si res H locs ls hn0 hi ho he hm hZ hl rfl
  refine lv_aload_n hx_ hb_ d_Code_execute_0 rfl (lv_at hl 0 rfl) ?_
  refine zz_get hC hK hZ 27 13 (Nat.le_of_ble_eq_true rfl) (xc_27 q _ _) rfl hin_Code (by decide) wd_194 rfl rfl d_Code_execute_1 ?_
  refine zz_topi (y := nI cs.1) hk.1 ?_
  refine zz_ine (tgt := 9) hC d_Code_execute_4 (by decide) (by omega) (fun h4 => ?_) (fun h4 => ?_)
  · refine lv_iconst (v := nI 0) hx_ hb_ d_Code_execute_9 (by decide) ?_
    refine lv_istore_n (i := 2) (lv' := [(2, .int (nI 0)), (0, .ref (zz_ad (xg_G q) 27)), (1, .ref (zz_ad (xg_G q) 41))]) hx_ hb_ d_Code_execute_10 rfl hl (by decide) rfl (fun ls hl => ?_)
    exact L11 0 S (fun _ => 0)  _ _ _ h4 (Nat.zero_le _) zz_off_rf (fun j hj => absurd hj (Nat.not_lt_zero j)) ex_mem_0 hZ (lv_sub hl [1, 2, 0] rfl)
  · refine lv_iconst (v := nI 0) hx_ hb_ d_Code_execute_7 (by decide) ?_
    exact zz_iret hC hK hZ rfl d_Code_execute_8 ⟨zz_off_rf, Or.inl ⟨h4, rfl⟩⟩
