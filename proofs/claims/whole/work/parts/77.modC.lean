/-! The reference: write. Laid by wip/whole/prog/p30.py. -/
set_option maxHeartbeats 4000000 in
set_option maxRecDepth 100000 in
theorem c_Model_write (l : Launch) (q : xg_T) (S : zz_S) (cs : cd_T) (r nd o a b : Nat) (nu : Int32) (hk : mk_cd S cs) (hn : cs.1 < 160) (hnu : S.1 22 cs.1 = nu) (ha : a < 1000 → a < cs.1) (hb : b < 1000 → b < cs.1) : Met l y_Model_write (Cond.code y_Model_write b_Model_write 6 none :: zz_tbl) rm_Model_write (zz_Pc [.ref (zz_ad (mg_G q) 0), .int (nI r), .int (nI nd), .int (nI o), .int (vw_s a), .int (vw_s b)] (mg_G q) S) (va_Qv (fun S1 => zz_off mk_X S S1 ∧ (∀ j, j ≠ 22 → S1.1 0 j = S.1 0 j) ∧ mk_cd S1 (cd_ap cs r nd o nu a b)) (zz_P (mg_G q)) (zz_A (mg_G q))) 0 0 (zz_A (mg_G q)) := by
  refine zz_met (by decide) (Nat.le_of_ble_eq_true rfl) ?_
  intro p_ e_ s_ m_ bl_ mt_ c_ ls hC hK hZ hl
  have hC : zz_C p_ s_ m_ _ mt_ c_ b_Model_write 6 none "TreeCoverForgeModel" := hC
  have hx_ := hC.1
  have hb_ := hC.2.1
  have hl : lv_has ls 6 [(0, .ref (zz_ad (mg_G q) 0)), (1, .int (nI r)), (2, .int (nI nd)), (3, .int (nI o)), (4, .int (vw_s a)), (5, .int (vw_s b))] := hl
  have J97 : ∀ (So : zz_S) (H : Heap) (locs : List Loc) (ls : Array Slot) (ho : zz_off (fun c => c = 25) (mk_b S cs.1 r nd o a b) So) (h34 : ∀ j, j < cs.1 + 1 → So.1 25 j = nI (cd_un (cd_un (va_up cs.2.2.2.2.2.2.2 cs.1 cs.1) cs.1 a) cs.1 b j)) (hZ : zz_Z (mg_G q) So s_.heap H locs) (hl : lv_has ls 6 [(0, .ref (zz_ad (mg_G q) 0)), (1, .int (nI r)), (2, .int (nI nd)), (3, .int (nI o)), (4, .int (vw_s a)), (5, .int (vw_s b))]), W p_ l e_ rm_Model_write s_ m_ ([.ref (zz_ad (mg_G q) 0), .int (nI r), .int (nI nd), .int (nI o), .int (vw_s a), .int (vw_s b)] : List Value).toArray bl_ mt_ c_ H locs 0 0 (MQ bl_ (va_Qv (fun S1 => zz_off mk_X S S1 ∧ (∀ j, j ≠ 22 → S1.1 0 j = S.1 0 j) ∧ mk_cd S1 (cd_ap cs r nd o nu a b)) (zz_P (mg_G q)) (zz_A (mg_G q))) ([.ref (zz_ad (mg_G q) 0), .int (nI r), .int (nI nd), .int (nI o), .int (vw_s a), .int (vw_s b)] : List Value).toArray s_ 0 0 (zz_A (mg_G q))) (F0 m_ 97 ls []) := by
    intro So H locs ls ho h34 hZ hl
    have hcn : So.1 0 22 = nI cs.1 := by
      rw [(ho 0 (by omega)).1]
      exact hk.1
    refine lv_aload_n hx_ hb_ d_Model_write_97 rfl (lv_at hl 0 rfl) ?_
    refine lv_dup hx_ hb_ d_Model_write_98 rfl ?_
    refine zz_get hC hK hZ 0 22 (Nat.le_of_ble_eq_true rfl) (mc_0 q _ _) rfl hin_Model (by decide) wd_529 rfl rfl d_Model_write_99 ?_
    refine zz_topi (y := nI cs.1) hcn ?_
    refine lv_iconst (v := nI 1) hx_ hb_ d_Model_write_102 (by decide) ?_
    refine lv_iadd hx_ hb_ d_Model_write_103 ?_
    refine zz_topi (y := nI (cs.1 + 1)) (nI_add _ _) ?_
    refine zz_put hC hK hZ 0 22 (Nat.le_of_ble_eq_true rfl) (mc_0 q _ _) rfl hin_Model t_Model t_Model_ok n_Model (by decide) wd_529 rfl rfl rfl (Nat.le_of_ble_eq_true rfl) (mput_22 q _ _ _ (mc_0 q _ _)) d_Model_write_104 (fun H locs hZ => ?_)
    exact zz_vret hC hK hZ rfl d_Model_write_107 ⟨mk_boff ho, fun j hj => by
      rw [zz_u1s, pk_un hj, (ho 0 (by omega)).1]
      rfl, mk_ap hk hn hnu ho h34⟩
  have J81 : ∀ (So : zz_S) (H : Heap) (locs : List Loc) (ls : Array Slot) (ho : zz_off (fun c => c = 25) (mk_b S cs.1 r nd o a b) So) (h34 : ∀ j, j < cs.1 + 1 → So.1 25 j = nI (cd_un (va_up cs.2.2.2.2.2.2.2 cs.1 cs.1) cs.1 a j)) (hZ : zz_Z (mg_G q) So s_.heap H locs) (hl : lv_has ls 6 [(0, .ref (zz_ad (mg_G q) 0)), (1, .int (nI r)), (2, .int (nI nd)), (3, .int (nI o)), (4, .int (vw_s a)), (5, .int (vw_s b))]), W p_ l e_ rm_Model_write s_ m_ ([.ref (zz_ad (mg_G q) 0), .int (nI r), .int (nI nd), .int (nI o), .int (vw_s a), .int (vw_s b)] : List Value).toArray bl_ mt_ c_ H locs 0 0 (MQ bl_ (va_Qv (fun S1 => zz_off mk_X S S1 ∧ (∀ j, j ≠ 22 → S1.1 0 j = S.1 0 j) ∧ mk_cd S1 (cd_ap cs r nd o nu a b)) (zz_P (mg_G q)) (zz_A (mg_G q))) ([.ref (zz_ad (mg_G q) 0), .int (nI r), .int (nI nd), .int (nI o), .int (vw_s a), .int (vw_s b)] : List Value).toArray s_ 0 0 (zz_A (mg_G q))) (F0 m_ 81 ls []) := by
    intro So H locs ls ho h34 hZ hl
    have hcn : So.1 0 22 = nI cs.1 := by
      rw [(ho 0 (by omega)).1]
      exact hk.1
    refine lv_iload hx_ hb_ d_Model_write_81 (lv_at hl 5 rfl) ?_
    refine zz_rilt (tgt := 97) hC d_Model_write_83 (by decide) (fun h83 => ?_) (fun h83 => ?_)
    · exact J97 So  _ _ _ ho (fun j hj => by
        rw [xk_un_no (fun hlt => absurd (vw_sge.2 hlt) (by omega))]
        exact h34 j hj) hZ (lv_sub hl [0, 1, 2, 3, 4, 5] rfl)
    · refine lv_aload_n hx_ hb_ d_Model_write_86 rfl (lv_at hl 0 rfl) ?_
      refine zz_get hC hK hZ 0 31 (Nat.le_of_ble_eq_true rfl) (mc_0 q _ _) rfl hin_Model (by decide) wd_538 rfl rfl d_Model_write_87 ?_
      refine lv_iload hx_ hb_ d_Model_write_90 (lv_at hl 5 rfl) ?_
      refine lv_aload_n hx_ hb_ d_Model_write_92 rfl (lv_at hl 0 rfl) ?_
      refine zz_get hC hK hZ 0 22 (Nat.le_of_ble_eq_true rfl) (mc_0 q _ _) rfl hin_Model (by decide) wd_529 rfl rfl d_Model_write_93 ?_
      refine zz_topi (y := nI cs.1) hcn ?_
      refine zz_iast hC hK hZ 25 0 b (Nat.le_of_ble_eq_true rfl) (fun _ => mc_25 q _ _) rfl (vw_s_in (vw_sge.1 h83)) (by have := hb (vw_sge.1 h83); omega) (by decide) d_Model_write_96 (fun H locs hZ => ?_)
      exact J97 (zz_u So 25 b (nI cs.1))  _ _ _ (zz_off_tr ho (fun d hd => ⟨zz_u1 _ 25 b _ d hd, rfl⟩)) (fun j hj => by
        rw [zz_u1s]
        exact xk_upU (vw_sge.1 h83) h34 j hj) hZ (lv_sub hl [0, 1, 2, 3, 4, 5] rfl)
  refine lv_aload_n hx_ hb_ d_Model_write_0 rfl (lv_at hl 0 rfl) ?_
  refine zz_get hC hK hZ 0 25 (Nat.le_of_ble_eq_true rfl) (mc_0 q _ _) rfl hin_Model (by decide) wd_532 rfl rfl d_Model_write_1 ?_
  refine lv_aload_n hx_ hb_ d_Model_write_4 rfl (lv_at hl 0 rfl) ?_
  refine zz_get hC hK hZ 0 22 (Nat.le_of_ble_eq_true rfl) (mc_0 q _ _) rfl hin_Model (by decide) wd_529 rfl rfl d_Model_write_5 ?_
  refine zz_topi (y := nI cs.1) hk.1 ?_
  refine lv_iload_n hx_ hb_ d_Model_write_8 rfl (lv_at hl 1 rfl) ?_
  refine zz_iast hC hK hZ 19 0 cs.1 (Nat.le_of_ble_eq_true rfl) (fun _ => mc_19 q _ _) rfl rfl (by omega) (by decide) d_Model_write_9 (fun H locs hZ => ?_)
  refine lv_aload_n hx_ hb_ d_Model_write_10 rfl (lv_at hl 0 rfl) ?_
  refine zz_get hC hK hZ 0 26 (Nat.le_of_ble_eq_true rfl) (mc_0 q _ _) rfl hin_Model (by decide) wd_533 rfl rfl d_Model_write_11 ?_
  refine lv_aload_n hx_ hb_ d_Model_write_14 rfl (lv_at hl 0 rfl) ?_
  refine zz_get hC hK hZ 0 22 (Nat.le_of_ble_eq_true rfl) (mc_0 q _ _) rfl hin_Model (by decide) wd_529 rfl rfl d_Model_write_15 ?_
  refine zz_topi (y := nI cs.1) hk.1 ?_
  refine lv_iload_n hx_ hb_ d_Model_write_18 rfl (lv_at hl 2 rfl) ?_
  refine zz_iast hC hK hZ 20 0 cs.1 (Nat.le_of_ble_eq_true rfl) (fun _ => mc_20 q _ _) rfl rfl (by omega) (by decide) d_Model_write_19 (fun H locs hZ => ?_)
  refine lv_aload_n hx_ hb_ d_Model_write_20 rfl (lv_at hl 0 rfl) ?_
  refine zz_get hC hK hZ 0 27 (Nat.le_of_ble_eq_true rfl) (mc_0 q _ _) rfl hin_Model (by decide) wd_534 rfl rfl d_Model_write_21 ?_
  refine lv_aload_n hx_ hb_ d_Model_write_24 rfl (lv_at hl 0 rfl) ?_
  refine zz_get hC hK hZ 0 22 (Nat.le_of_ble_eq_true rfl) (mc_0 q _ _) rfl hin_Model (by decide) wd_529 rfl rfl d_Model_write_25 ?_
  refine zz_topi (y := nI cs.1) hk.1 ?_
  refine lv_iload_n hx_ hb_ d_Model_write_28 rfl (lv_at hl 3 rfl) ?_
  refine zz_iast hC hK hZ 21 0 cs.1 (Nat.le_of_ble_eq_true rfl) (fun _ => mc_21 q _ _) rfl rfl (by omega) (by decide) d_Model_write_29 (fun H locs hZ => ?_)
  refine lv_aload_n hx_ hb_ d_Model_write_30 rfl (lv_at hl 0 rfl) ?_
  refine zz_get hC hK hZ 0 29 (Nat.le_of_ble_eq_true rfl) (mc_0 q _ _) rfl hin_Model (by decide) wd_536 rfl rfl d_Model_write_31 ?_
  refine lv_aload_n hx_ hb_ d_Model_write_34 rfl (lv_at hl 0 rfl) ?_
  refine zz_get hC hK hZ 0 22 (Nat.le_of_ble_eq_true rfl) (mc_0 q _ _) rfl hin_Model (by decide) wd_529 rfl rfl d_Model_write_35 ?_
  refine zz_topi (y := nI cs.1) hk.1 ?_
  refine lv_iload hx_ hb_ d_Model_write_38 (lv_at hl 4 rfl) ?_
  refine zz_iast hC hK hZ 23 0 cs.1 (Nat.le_of_ble_eq_true rfl) (fun _ => mc_23 q _ _) rfl rfl (by omega) (by decide) d_Model_write_40 (fun H locs hZ => ?_)
  refine lv_aload_n hx_ hb_ d_Model_write_41 rfl (lv_at hl 0 rfl) ?_
  refine zz_get hC hK hZ 0 30 (Nat.le_of_ble_eq_true rfl) (mc_0 q _ _) rfl hin_Model (by decide) wd_537 rfl rfl d_Model_write_42 ?_
  refine lv_aload_n hx_ hb_ d_Model_write_45 rfl (lv_at hl 0 rfl) ?_
  refine zz_get hC hK hZ 0 22 (Nat.le_of_ble_eq_true rfl) (mc_0 q _ _) rfl hin_Model (by decide) wd_529 rfl rfl d_Model_write_46 ?_
  refine zz_topi (y := nI cs.1) hk.1 ?_
  refine lv_iload hx_ hb_ d_Model_write_49 (lv_at hl 5 rfl) ?_
  refine zz_iast hC hK hZ 24 0 cs.1 (Nat.le_of_ble_eq_true rfl) (fun _ => mc_24 q _ _) rfl rfl (by omega) (by decide) d_Model_write_51 (fun H locs hZ => ?_)
  refine lv_aload_n hx_ hb_ d_Model_write_52 rfl (lv_at hl 0 rfl) ?_
  refine zz_get hC hK hZ 0 31 (Nat.le_of_ble_eq_true rfl) (mc_0 q _ _) rfl hin_Model (by decide) wd_538 rfl rfl d_Model_write_53 ?_
  refine lv_aload_n hx_ hb_ d_Model_write_56 rfl (lv_at hl 0 rfl) ?_
  refine zz_get hC hK hZ 0 22 (Nat.le_of_ble_eq_true rfl) (mc_0 q _ _) rfl hin_Model (by decide) wd_529 rfl rfl d_Model_write_57 ?_
  refine zz_topi (y := nI cs.1) hk.1 ?_
  refine lv_aload_n hx_ hb_ d_Model_write_60 rfl (lv_at hl 0 rfl) ?_
  refine zz_get hC hK hZ 0 22 (Nat.le_of_ble_eq_true rfl) (mc_0 q _ _) rfl hin_Model (by decide) wd_529 rfl rfl d_Model_write_61 ?_
  refine zz_topi (y := nI cs.1) hk.1 ?_
  refine zz_iast hC hK hZ 25 0 cs.1 (Nat.le_of_ble_eq_true rfl) (fun _ => mc_25 q _ _) rfl rfl (by omega) (by decide) d_Model_write_64 (fun H locs hZ => ?_)
  refine lv_iload hx_ hb_ d_Model_write_65 (lv_at hl 4 rfl) ?_
  refine zz_rilt (tgt := 81) hC d_Model_write_67 (by decide) (fun h67 => ?_) (fun h67 => ?_)
  · exact J81 (zz_u (zz_u (zz_u (zz_u (zz_u (zz_u S 19 cs.1 (nI r)) 20 cs.1 (nI nd)) 21 cs.1 (nI o)) 23 cs.1 (vw_s a)) 24 cs.1 (vw_s b)) 25 cs.1 (nI cs.1))  _ _ _ zz_off_rf (fun j hj => by
      rw [xk_un_no (fun hlt => absurd (vw_sge.2 hlt) (by omega))]
      exact xk_upN (k := 0) (fun j hj => (hk.2.2 j hj).2.2.2.2.2.2) j hj) hZ (lv_sub hl [0, 1, 2, 3, 4, 5] rfl)
  · refine lv_aload_n hx_ hb_ d_Model_write_70 rfl (lv_at hl 0 rfl) ?_
    refine zz_get hC hK hZ 0 31 (Nat.le_of_ble_eq_true rfl) (mc_0 q _ _) rfl hin_Model (by decide) wd_538 rfl rfl d_Model_write_71 ?_
    refine lv_iload hx_ hb_ d_Model_write_74 (lv_at hl 4 rfl) ?_
    refine lv_aload_n hx_ hb_ d_Model_write_76 rfl (lv_at hl 0 rfl) ?_
    refine zz_get hC hK hZ 0 22 (Nat.le_of_ble_eq_true rfl) (mc_0 q _ _) rfl hin_Model (by decide) wd_529 rfl rfl d_Model_write_77 ?_
    refine zz_topi (y := nI cs.1) hk.1 ?_
    refine zz_iast hC hK hZ 25 0 a (Nat.le_of_ble_eq_true rfl) (fun _ => mc_25 q _ _) rfl (vw_s_in (vw_sge.1 h67)) (by have := ha (vw_sge.1 h67); omega) (by decide) d_Model_write_80 (fun H locs hZ => ?_)
    exact J81 (zz_u (zz_u (zz_u (zz_u (zz_u (zz_u (zz_u S 19 cs.1 (nI r)) 20 cs.1 (nI nd)) 21 cs.1 (nI o)) 23 cs.1 (vw_s a)) 24 cs.1 (vw_s b)) 25 cs.1 (nI cs.1)) 25 a (nI cs.1))  _ _ _ (fun d hd => ⟨zz_u1 _ 25 a _ d hd, rfl⟩) (fun j hj => by
      rw [zz_u1s]
      exact xk_upU (vw_sge.1 h67) (xk_upN (k := 0) (fun j hj => (hk.2.2 j hj).2.2.2.2.2.2)) j hj) hZ (lv_sub hl [0, 1, 2, 3, 4, 5] rfl)
