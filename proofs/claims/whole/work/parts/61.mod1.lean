/-! The reference: rules and costs. Laid by wip/whole/prog/p20.py. -/
set_option maxHeartbeats 4000000 in
set_option maxRecDepth 100000 in
theorem c_Model_kids (l : Launch) (q : xg_T) (S : zz_S) (o : Nat) (ho : o < 2 ^ 31) : Met l y_Model_kids (Cond.code y_Model_kids b_Model_kids 1 (some .int) :: zz_tbl) rm_Model_kids (zz_Pc [.int (nI o)] (mg_G q) S) (va_Qi (fun ans S1 => S = S1 ∧ ans = nI (zz_kd o)) (zz_P (mg_G q)) (zz_A (mg_G q))) 0 0 (zz_A (mg_G q)) := by
  refine zz_met (by decide) (Nat.le_of_ble_eq_true rfl) ?_
  intro p_ e_ s_ m_ bl_ mt_ c_ ls hC hK hZ hl
  have hC : zz_C p_ s_ m_ _ mt_ c_ b_Model_kids 1 (some .int) "TreeCoverForgeModel" := hC
  have hx_ := hC.1
  have hb_ := hC.2.1
  have hl : lv_has ls 1 [(0, .int (nI o))] := hl
  have hkc := zz_kdc o
  refine lv_iload_n hx_ hb_ d_Model_kids_0 rfl (lv_at hl 0 rfl) ?_
  refine lv_iconst (v := nI 3) hx_ hb_ d_Model_kids_1 (by decide) ?_
  refine zz_jge (tgt := 9) hC d_Model_kids_2 (by decide) (by omega) (by omega) (fun h2 => ?_) (fun h2 => ?_)
  · refine lv_iload_n hx_ hb_ d_Model_kids_9 rfl (lv_at hl 0 rfl) ?_
    refine lv_iconst (v := nI 5) hx_ hb_ d_Model_kids_10 (by decide) ?_
    refine zz_jge (tgt := 18) hC d_Model_kids_11 (by decide) (by omega) (by omega) (fun h11 => ?_) (fun h11 => ?_)
    · refine lv_iconst (v := nI 2) hx_ hb_ d_Model_kids_18 (by decide) ?_
      exact zz_iret hC hK hZ rfl d_Model_kids_19 ⟨rfl, by rw [show zz_kd o = 2 by omega]⟩
    · refine lv_iconst (v := nI 1) hx_ hb_ d_Model_kids_14 (by decide) ?_
      refine lv_goto (tgt := 19) hx_ hb_ d_Model_kids_15 (by decide) ?_
      exact zz_iret hC hK hZ rfl d_Model_kids_19 ⟨rfl, by rw [show zz_kd o = 1 by omega]⟩
  · refine lv_iconst (v := nI 0) hx_ hb_ d_Model_kids_5 (by decide) ?_
    refine lv_goto (tgt := 19) hx_ hb_ d_Model_kids_6 (by decide) ?_
    exact zz_iret hC hK hZ rfl d_Model_kids_19 ⟨rfl, by rw [show zz_kd o = 0 by omega]⟩
set_option maxHeartbeats 4000000 in
set_option maxRecDepth 100000 in
theorem c_Model_outside (l : Launch) (q : xg_T) (S : zz_S) (x : Int32) (mo : Nat) (hmo : mo < 2 ^ 31) : Met l y_Model_outside (Cond.code y_Model_outside b_Model_outside 2 (some .boolean) :: zz_tbl) rm_Model_outside (zz_Pc [.int x, .int (nI mo)] (mg_G q) S) (va_Qi (fun ans S1 => S = S1 ∧ ans = nI (if x.toInt < 0 ∨ (mo : Int) < x.toInt then 1 else 0)) (zz_P (mg_G q)) (zz_A (mg_G q))) 0 0 (zz_A (mg_G q)) := by
  refine zz_met (by decide) (Nat.le_of_ble_eq_true rfl) ?_
  intro p_ e_ s_ m_ bl_ mt_ c_ ls hC hK hZ hl
  have hC : zz_C p_ s_ m_ _ mt_ c_ b_Model_outside 2 (some .boolean) "TreeCoverForgeModel" := hC
  have hx_ := hC.1
  have hb_ := hC.2.1
  have hl : lv_has ls 2 [(0, .int x), (1, .int (nI mo))] := hl
  refine lv_iload_n hx_ hb_ d_Model_outside_0 rfl (lv_at hl 0 rfl) ?_
  refine zz_rilt (tgt := 9) hC d_Model_outside_1 (by decide) (fun h1 => ?_) (fun h1 => ?_)
  · refine lv_iconst (v := nI 1) hx_ hb_ d_Model_outside_9 (by decide) ?_
    refine lv_goto (tgt := 14) hx_ hb_ d_Model_outside_10 (by decide) ?_
    exact zz_zret hC hK hZ rfl d_Model_outside_14 (by decide) ⟨rfl, by rw [if_pos (by omega)]⟩
  · refine lv_iload_n hx_ hb_ d_Model_outside_4 rfl (lv_at hl 0 rfl) ?_
    refine lv_iload_n hx_ hb_ d_Model_outside_5 rfl (lv_at hl 1 rfl) ?_
    refine zz_rjle (tgt := 13) hC d_Model_outside_6 (by decide) (fun h6 => ?_) (fun h6 => ?_)
    · rw [nI_toInt (by omega)] at h6
      refine lv_iconst (v := nI 0) hx_ hb_ d_Model_outside_13 (by decide) ?_
      exact zz_zret hC hK hZ rfl d_Model_outside_14 (by decide) ⟨rfl, by rw [if_neg (by omega)]⟩
    · rw [nI_toInt (by omega)] at h6
      refine lv_iconst (v := nI 1) hx_ hb_ d_Model_outside_9 (by decide) ?_
      refine lv_goto (tgt := 14) hx_ hb_ d_Model_outside_10 (by decide) ?_
      exact zz_zret hC hK hZ rfl d_Model_outside_14 (by decide) ⟨rfl, by rw [if_pos (by omega)]⟩
set_option maxHeartbeats 4000000 in
set_option maxRecDepth 100000 in
theorem c_Model_clear (l : Launch) (q : xg_T) (S : zz_S)  : Met l y_Model_clear (Cond.code y_Model_clear b_Model_clear 1 none :: zz_tbl) rm_Model_clear (zz_Pc [.ref (zz_ad (mg_G q) 0)] (mg_G q) S) (va_Qv (fun S1 => S1 = zz_u S 0 0 (nI 0)) (zz_P (mg_G q)) (zz_A (mg_G q))) 0 0 (zz_A (mg_G q)) := by
  refine zz_met (by decide) (Nat.le_of_ble_eq_true rfl) ?_
  intro p_ e_ s_ m_ bl_ mt_ c_ ls hC hK hZ hl
  have hC : zz_C p_ s_ m_ _ mt_ c_ b_Model_clear 1 none "TreeCoverForgeModel" := hC
  have hx_ := hC.1
  have hb_ := hC.2.1
  have hl : lv_has ls 1 [(0, .ref (zz_ad (mg_G q) 0))] := hl
  refine lv_aload_n hx_ hb_ d_Model_clear_0 rfl (lv_at hl 0 rfl) ?_
  refine lv_iconst (v := nI 0) hx_ hb_ d_Model_clear_1 (by decide) ?_
  refine zz_put hC hK hZ 0 0 (Nat.le_of_ble_eq_true rfl) (mc_0 q _ _) rfl hin_Model t_Model t_Model_ok n_Model (by decide) wd_507 rfl rfl rfl (Nat.le_of_ble_eq_true rfl) (mput_0 q _ _ _ (mc_0 q _ _)) d_Model_clear_2 (fun H locs hZ => ?_)
  exact zz_vret hC hK hZ rfl d_Model_clear_5 rfl
set_option maxHeartbeats 4000000 in
set_option maxRecDepth 100000 in
theorem c_Model_through (l : Launch) (q : xg_T) (S : zz_S) (r : Nat) (g : Nat → Nat) (rl : mx_R) (R : Nat) (hB : mb_ok S rl R) (o : Nat) (lf rt : Nat → Nat) (ho : o < 8) (hlf : 0 < zz_kd o → mg_ok S 13 lf) (hrt : 1 < zz_kd o → mg_ok S 14 rt) (hlb : ∀ k, k < 4 → lf k ≤ mx_far) (hrb : ∀ k, k < 4 → rt k ≤ mx_far) (hr : r < R) (hg : mg_ok S 15 g) : Met l y_Model_through (Cond.code y_Model_through b_Model_through 6 (some .long) :: zz_tbl) rm_Model_through (zz_Pc [.ref (zz_ad (mg_G q) 0), .int (nI r), .int (nI o)] (mg_G q) S) (va_Ql (fun ans S1 => S = S1 ∧ ans = lN (mx_th rl o lf rt g r)) (zz_P (mg_G q)) (zz_A (mg_G q))) 0 0 (zz_A (mg_G q)) := by
  refine zz_met (by decide) (Nat.le_of_ble_eq_true rfl) ?_
  intro p_ e_ s_ m_ bl_ mt_ c_ ls hC hK hZ hl
  have hC : zz_C p_ s_ m_ _ mt_ c_ b_Model_through 6 (some .long) "TreeCoverForgeModel" := hC
  have hx_ := hC.1
  have hb_ := hC.2.1
  have hl : lv_has ls 6 [(0, .ref (zz_ad (mg_G q) 0)), (1, .int (nI r)), (2, .int (nI o))] := hl
  have hrr := hB.2.2.2 r hr
  have hok := hB.2.2.1 r hr
  have hR24 := hB.2.1
  have hkd := tr_kd o
  refine lv_aload_n hx_ hb_ d_Model_through_0 rfl (lv_at hl 0 rfl) ?_
  refine zz_get hC hK hZ 0 5 (Nat.le_of_ble_eq_true rfl) (mc_0 q _ _) rfl hin_Model (by decide) wd_512 rfl rfl d_Model_through_1 ?_
  refine lv_iload_n hx_ hb_ d_Model_through_4 rfl (lv_at hl 1 rfl) ?_
  refine zz_iald hC hK hZ 5 0 r (Nat.le_of_ble_eq_true rfl) (mc_5 q _ _) rfl rfl (by omega) (by decide) rfl d_Model_through_5 ?_
  refine zz_topi (y := nI ((rl r).2.2.2.2)) hrr.2.2.2.2 ?_
  refine lv_i2l (v := lN ((rl r).2.2.2.2)) hx_ hb_ d_Model_through_6 (nI_l (by omega)) ?_
  refine lv_lstore_n (i := 3) (lv' := [(3, .long (lN ((rl r).2.2.2.2))), (0, .ref (zz_ad (mg_G q) 0)), (1, .int (nI r)), (2, .int (nI o))]) hx_ hb_ d_Model_through_7 rfl hl (by decide) rfl (fun ls hl => ?_)
  refine lv_aload_n hx_ hb_ d_Model_through_8 rfl (lv_at hl 1 rfl) ?_
  refine zz_get hC hK hZ 0 2 (Nat.le_of_ble_eq_true rfl) (mc_0 q _ _) rfl hin_Model (by decide) wd_509 rfl rfl d_Model_through_9 ?_
  refine lv_iload_n hx_ hb_ d_Model_through_12 rfl (lv_at hl 2 rfl) ?_
  refine zz_iald hC hK hZ 2 0 r (Nat.le_of_ble_eq_true rfl) (mc_2 q _ _) rfl rfl (by omega) (by decide) rfl d_Model_through_13 ?_
  refine zz_topi (y := nI ((rl r).2.1)) hrr.2.1 ?_
  refine lv_bipush (v := nI 8) hx_ hb_ d_Model_through_14 (by decide) ?_
  refine zz_jne (tgt := 33) hC d_Model_through_16 (by decide) (by omega) (by omega) (fun h16 => ?_) (fun h16 => ?_)
  · refine lv_aload_n hx_ hb_ d_Model_through_33 rfl (lv_at hl 1 rfl) ?_
    refine zz_get hC hK hZ 0 2 (Nat.le_of_ble_eq_true rfl) (mc_0 q _ _) rfl hin_Model (by decide) wd_509 rfl rfl d_Model_through_34 ?_
    refine lv_iload_n hx_ hb_ d_Model_through_37 rfl (lv_at hl 2 rfl) ?_
    refine zz_iald hC hK hZ 2 0 r (Nat.le_of_ble_eq_true rfl) (mc_2 q _ _) rfl rfl (by omega) (by decide) rfl d_Model_through_38 ?_
    refine zz_topi (y := nI ((rl r).2.1)) hrr.2.1 ?_
    refine lv_iload_n hx_ hb_ d_Model_through_39 rfl (lv_at hl 3 rfl) ?_
    refine zz_jeq (tgt := 47) hC d_Model_through_40 (by decide) (by omega) (by omega) (fun h40 => ?_) (fun h40 => ?_)
    · refine lv_iload_n hx_ hb_ d_Model_through_47 rfl (lv_at hl 3 rfl) ?_
      refine zz_ci (zz_rS (As := [.int (nI o)]) (rest := []) hC hK hZ (c_Model_kids l q S o (by omega)) k_Model_kids wd_649 ⟨rfl, rfl, by decide, by decide⟩ rfl hl.1 rfl (Nat.le_of_ble_eq_true rfl) d_Model_through_48 ⟨Nat.zero_le _, Nat.zero_le _⟩) hZ (fun r48 S48 H locs hp48 hZ => ?_)
      obtain ⟨rfl, rfl⟩ := hp48
      refine lv_istore (i := 5) (lv' := [(5, .int (nI (zz_kd o))), (3, .long (lN ((rl r).2.2.2.2))), (0, .ref (zz_ad (mg_G q) 0)), (1, .int (nI r)), (2, .int (nI o))]) hx_ hb_ d_Model_through_51 hl (by decide) rfl (fun ls hl => ?_)
      refine lv_lload_n hx_ hb_ d_Model_through_53 rfl (lv_at hl 1 rfl) ?_
      refine lv_iload hx_ hb_ d_Model_through_54 (lv_at hl 0 rfl) ?_
      refine zz_ile (tgt := 73) hC d_Model_through_56 (by decide) (by omega) (fun h56 => ?_) (fun h56 => ?_)
      · refine lv_lconst (v := lN 0) hx_ hb_ d_Model_through_73 (by decide) ?_
        refine lv_ladd hx_ hb_ d_Model_through_74 ?_
        refine zz_topl (y := lN ((rl r).2.2.2.2 + 0)) (lN_add _ _) ?_
        refine lv_iload hx_ hb_ d_Model_through_75 (lv_at hl 0 rfl) ?_
        refine lv_iconst (v := nI 1) hx_ hb_ d_Model_through_77 (by decide) ?_
        refine zz_jle (tgt := 95) hC d_Model_through_78 (by decide) (by omega) (by omega) (fun h78 => ?_) (fun h78 => ?_)
        · refine lv_lconst (v := lN 0) hx_ hb_ d_Model_through_95 (by decide) ?_
          refine lv_ladd hx_ hb_ d_Model_through_96 ?_
          refine zz_topl (y := lN ((rl r).2.2.2.2 + 0 + 0)) (lN_add _ _) ?_
          exact zz_lret hC hK hZ rfl d_Model_through_97 ⟨rfl, by rw [mx_th, if_neg h16, if_pos h40, if_neg (by omega), if_neg (by omega)]⟩
        · refine lv_aload_n hx_ hb_ d_Model_through_81 rfl (lv_at hl 2 rfl) ?_
          refine zz_get hC hK hZ 0 16 (Nat.le_of_ble_eq_true rfl) (mc_0 q _ _) rfl hin_Model (by decide) wd_523 rfl rfl d_Model_through_82 ?_
          refine lv_aload_n hx_ hb_ d_Model_through_85 rfl (lv_at hl 2 rfl) ?_
          refine zz_get hC hK hZ 0 4 (Nat.le_of_ble_eq_true rfl) (mc_0 q _ _) rfl hin_Model (by decide) wd_511 rfl rfl d_Model_through_86 ?_
          refine lv_iload_n hx_ hb_ d_Model_through_89 rfl (lv_at hl 3 rfl) ?_
          refine zz_iald hC hK hZ 4 0 r (Nat.le_of_ble_eq_true rfl) (mc_4 q _ _) rfl rfl (by omega) (by decide) rfl d_Model_through_90 ?_
          refine zz_topi (y := nI ((rl r).2.2.2.1)) hrr.2.2.2.1 ?_
          refine zz_lald hC hK hZ 14 1 ((rl r).2.2.2.1) (Nat.le_of_ble_eq_true rfl) (mc_14 q _ _) rfl rfl (by omega) (by decide) rfl d_Model_through_91 ?_
          refine zz_topl (y := lN (rt (rl r).2.2.2.1)) (hrt (by omega) _ hok.2.2.2.1) ?_
          refine lv_goto (tgt := 96) hx_ hb_ d_Model_through_92 (by decide) ?_
          refine lv_ladd hx_ hb_ d_Model_through_96 ?_
          refine zz_topl (y := lN ((rl r).2.2.2.2 + 0 + (rt (rl r).2.2.2.1))) (lN_add _ _) ?_
          exact zz_lret hC hK hZ rfl d_Model_through_97 ⟨rfl, by rw [mx_th, if_neg h16, if_pos h40, if_neg (by omega), if_pos (by omega)]⟩
      · refine lv_aload_n hx_ hb_ d_Model_through_59 rfl (lv_at hl 2 rfl) ?_
        refine zz_get hC hK hZ 0 15 (Nat.le_of_ble_eq_true rfl) (mc_0 q _ _) rfl hin_Model (by decide) wd_522 rfl rfl d_Model_through_60 ?_
        refine lv_aload_n hx_ hb_ d_Model_through_63 rfl (lv_at hl 2 rfl) ?_
        refine zz_get hC hK hZ 0 3 (Nat.le_of_ble_eq_true rfl) (mc_0 q _ _) rfl hin_Model (by decide) wd_510 rfl rfl d_Model_through_64 ?_
        refine lv_iload_n hx_ hb_ d_Model_through_67 rfl (lv_at hl 3 rfl) ?_
        refine zz_iald hC hK hZ 3 0 r (Nat.le_of_ble_eq_true rfl) (mc_3 q _ _) rfl rfl (by omega) (by decide) rfl d_Model_through_68 ?_
        refine zz_topi (y := nI ((rl r).2.2.1)) hrr.2.2.1 ?_
        refine zz_lald hC hK hZ 13 1 ((rl r).2.2.1) (Nat.le_of_ble_eq_true rfl) (mc_13 q _ _) rfl rfl (by omega) (by decide) rfl d_Model_through_69 ?_
        refine zz_topl (y := lN (lf (rl r).2.2.1)) (hlf (by omega) _ hok.2.2.1) ?_
        refine lv_goto (tgt := 74) hx_ hb_ d_Model_through_70 (by decide) ?_
        refine lv_ladd hx_ hb_ d_Model_through_74 ?_
        refine zz_topl (y := lN ((rl r).2.2.2.2 + (lf (rl r).2.2.1))) (lN_add _ _) ?_
        refine lv_iload hx_ hb_ d_Model_through_75 (lv_at hl 0 rfl) ?_
        refine lv_iconst (v := nI 1) hx_ hb_ d_Model_through_77 (by decide) ?_
        refine zz_jle (tgt := 95) hC d_Model_through_78 (by decide) (by omega) (by omega) (fun h78 => ?_) (fun h78 => ?_)
        · refine lv_lconst (v := lN 0) hx_ hb_ d_Model_through_95 (by decide) ?_
          refine lv_ladd hx_ hb_ d_Model_through_96 ?_
          refine zz_topl (y := lN ((rl r).2.2.2.2 + (lf (rl r).2.2.1) + 0)) (lN_add _ _) ?_
          exact zz_lret hC hK hZ rfl d_Model_through_97 ⟨rfl, by rw [mx_th, if_neg h16, if_pos h40, if_pos (by omega), if_neg (by omega)]⟩
        · refine lv_aload_n hx_ hb_ d_Model_through_81 rfl (lv_at hl 2 rfl) ?_
          refine zz_get hC hK hZ 0 16 (Nat.le_of_ble_eq_true rfl) (mc_0 q _ _) rfl hin_Model (by decide) wd_523 rfl rfl d_Model_through_82 ?_
          refine lv_aload_n hx_ hb_ d_Model_through_85 rfl (lv_at hl 2 rfl) ?_
          refine zz_get hC hK hZ 0 4 (Nat.le_of_ble_eq_true rfl) (mc_0 q _ _) rfl hin_Model (by decide) wd_511 rfl rfl d_Model_through_86 ?_
          refine lv_iload_n hx_ hb_ d_Model_through_89 rfl (lv_at hl 3 rfl) ?_
          refine zz_iald hC hK hZ 4 0 r (Nat.le_of_ble_eq_true rfl) (mc_4 q _ _) rfl rfl (by omega) (by decide) rfl d_Model_through_90 ?_
          refine zz_topi (y := nI ((rl r).2.2.2.1)) hrr.2.2.2.1 ?_
          refine zz_lald hC hK hZ 14 1 ((rl r).2.2.2.1) (Nat.le_of_ble_eq_true rfl) (mc_14 q _ _) rfl rfl (by omega) (by decide) rfl d_Model_through_91 ?_
          refine zz_topl (y := lN (rt (rl r).2.2.2.1)) (hrt (by omega) _ hok.2.2.2.1) ?_
          refine lv_goto (tgt := 96) hx_ hb_ d_Model_through_92 (by decide) ?_
          refine lv_ladd hx_ hb_ d_Model_through_96 ?_
          refine zz_topl (y := lN ((rl r).2.2.2.2 + (lf (rl r).2.2.1) + (rt (rl r).2.2.2.1))) (lN_add _ _) ?_
          exact zz_lret hC hK hZ rfl d_Model_through_97 ⟨rfl, by rw [mx_th, if_neg h16, if_pos h40, if_pos (by omega), if_pos (by omega)]⟩
    · refine lv_ldc2 (v := lN 1125899906842624) hx_ hb_ hC.2.2.2.1 (hC.2.2.2.2.1 _ wd_644) d_Model_through_43 ?_
      exact zz_lret hC hK hZ rfl d_Model_through_46 ⟨rfl, by rw [mx_th, if_neg h16, if_neg h40]; rfl⟩
  · refine lv_lload_n hx_ hb_ d_Model_through_19 rfl (lv_at hl 0 rfl) ?_
    refine lv_aload_n hx_ hb_ d_Model_through_20 rfl (lv_at hl 1 rfl) ?_
    refine zz_get hC hK hZ 0 17 (Nat.le_of_ble_eq_true rfl) (mc_0 q _ _) rfl hin_Model (by decide) wd_524 rfl rfl d_Model_through_21 ?_
    refine lv_aload_n hx_ hb_ d_Model_through_24 rfl (lv_at hl 1 rfl) ?_
    refine zz_get hC hK hZ 0 3 (Nat.le_of_ble_eq_true rfl) (mc_0 q _ _) rfl hin_Model (by decide) wd_510 rfl rfl d_Model_through_25 ?_
    refine lv_iload_n hx_ hb_ d_Model_through_28 rfl (lv_at hl 2 rfl) ?_
    refine zz_iald hC hK hZ 3 0 r (Nat.le_of_ble_eq_true rfl) (mc_3 q _ _) rfl rfl (by omega) (by decide) rfl d_Model_through_29 ?_
    refine zz_topi (y := nI ((rl r).2.2.1)) hrr.2.2.1 ?_
    refine zz_lald hC hK hZ 15 1 ((rl r).2.2.1) (Nat.le_of_ble_eq_true rfl) (mc_15 q _ _) rfl rfl (by omega) (by decide) rfl d_Model_through_30 ?_
    refine zz_topl (y := lN (g (rl r).2.2.1)) (hg _ hok.2.2.1) ?_
    refine lv_ladd hx_ hb_ d_Model_through_31 ?_
    refine zz_topl (y := lN ((rl r).2.2.2.2 + (g (rl r).2.2.1))) (lN_add _ _) ?_
    exact zz_lret hC hK hZ rfl d_Model_through_32 ⟨rfl, by rw [mx_th, if_pos h16]⟩
set_option maxHeartbeats 4000000 in
set_option maxRecDepth 100000 in
theorem c_Model_combine (l : Launch) (q : xg_T) (S : zz_S) (rl : mx_R) (R : Nat) (hB : mb_ok S rl R) (o : Nat) (lf rt : Nat → Nat) (ho : o < 8) (hlf : 0 < zz_kd o → mg_ok S 13 lf) (hrt : 1 < zz_kd o → mg_ok S 14 rt) (hlb : ∀ k, k < 4 → lf k ≤ mx_far) (hrb : ∀ k, k < 4 → rt k ≤ mx_far) : Met l y_Model_combine (Cond.code y_Model_combine b_Model_combine 6 none :: zz_tbl) rm_Model_combine (zz_Pc [.ref (zz_ad (mg_G q) 0), .int (nI o)] (mg_G q) S) (va_Qv (fun S1 => zz_off (fun c => c = 15 ∨ c = 16) S S1 ∧ ∃ g y, mx_Lab rl R o lf rt g y ∧ ∀ k, k < 4 → S1.2 15 k = lN (g k) ∧ S1.1 16 k = vw_p (y k)) (zz_P (mg_G q)) (zz_A (mg_G q))) 0 0 (zz_A (mg_G q)) := by
  refine zz_met (by decide) (Nat.le_of_ble_eq_true rfl) ?_
  intro p_ e_ s_ m_ bl_ mt_ c_ ls hC hK hZ hl
  have hC : zz_C p_ s_ m_ _ mt_ c_ b_Model_combine 6 none "TreeCoverForgeModel" := hC
  have hx_ := hC.1
  have hb_ := hC.2.1
  have hl : lv_has ls 6 [(0, .ref (zz_ad (mg_G q) 0)), (1, .int (nI o))] := hl
  have hok := hB.2.2.1
  have hR24 := hB.2.1
  have hfar := vw_far
  have L118_ : ∀ (n_ : Nat) (x : Nat) (Si : zz_S) (H : Heap) (locs : List Loc) (ls : Array Slot) (hx : x ≤ R) (ho1 : zz_off (fun c => c = 15 ∨ c = 16) S Si) (hg : mg_ok Si 15 (mp_G rl R o lf rt 5)) (hpk : ∀ k, k < 4 → Si.1 16 k = vw_p (mp_pk rl o lf rt (mp_G rl R o lf rt 5) R (R - x) k)) (hZ : zz_Z (mg_G q) Si s_.heap H locs) (hl : lv_has ls 6 [(0, .ref (zz_ad (mg_G q) 0)), (1, .int (nI o)), (2, .int (nI x - 1))]) (hn_ : x = n_), W p_ l e_ rm_Model_combine s_ m_ ([.ref (zz_ad (mg_G q) 0), .int (nI o)] : List Value).toArray bl_ mt_ c_ H locs 0 0 (MQ bl_ (va_Qv (fun S1 => zz_off (fun c => c = 15 ∨ c = 16) S S1 ∧ ∃ g y, mx_Lab rl R o lf rt g y ∧ ∀ k, k < 4 → S1.2 15 k = lN (g k) ∧ S1.1 16 k = vw_p (y k)) (zz_P (mg_G q)) (zz_A (mg_G q))) ([.ref (zz_ad (mg_G q) 0), .int (nI o)] : List Value).toArray s_ 0 0 (zz_A (mg_G q))) (F0 m_ 118 ls []) := by
    intro n_
    induction n_ using Nat.strongRecOn with
    | ind n_ ih_ =>
      intro x Si H locs ls hx ho1 hg hpk hZ hl hn_
      have hBi : mb_ok Si rl R := mb_keep hB (by rw [(ho1 0 (by omega)).1]) (fun c h1 h2 => (ho1 c (by omega)).1)
      have hlfi : 0 < zz_kd o → mg_ok Si 13 lf := fun h => mg_off (hlf h) (ho1 13 (by omega)).2
      have hrti : 1 < zz_kd o → mg_ok Si 14 rt := fun h => mg_off (hrt h) (ho1 14 (by omega)).2
      refine lv_iload_n hx_ hb_ d_Model_combine_118 rfl (lv_at hl 2 rfl) ?_
      refine zz_plt (tgt := 184) hC d_Model_combine_119 (by decide) (by omega) (fun h119 => ?_) (fun h119 => ?_)
      · exact zz_vret hC hK hZ rfl d_Model_combine_184 ⟨ho1, mp_G rl R o lf rt 5, mp_pk rl o lf rt (mp_G rl R o lf rt 5) R R, mp_ref_lab (mp_ref hok), fun k hk => ⟨hg k hk, by rw [show x = 0 by omega] at hpk; exact hpk k hk⟩⟩
      · have hrr := hBi.2.2.2 (x - 1) (by omega)
        have hokr := hok (x - 1) (by omega)
        have hthb := mm_th_le (o := o) (g := mp_G rl R o lf rt 5) hok (show x - 1 < R by omega) hlb hrb (fun k _ => mp_G_far (rl := rl) (R := R) (o := o) (lf := lf) (rt := rt) 5 k)
        have hswb := mp_G_far (rl := rl) (R := R) (o := o) (lf := lf) (rt := rt) 5 (rl (x - 1)).1
        refine lv_aload_n hx_ hb_ d_Model_combine_122 rfl (lv_at hl 0 rfl) ?_
        refine zz_get hC hK hZ 0 1 (Nat.le_of_ble_eq_true rfl) (mc_0 q _ _) rfl hin_Model (by decide) wd_508 rfl rfl d_Model_combine_123 ?_
        refine lv_iload_n hx_ hb_ d_Model_combine_126 rfl (lv_at hl 2 rfl) ?_
        refine zz_topi (y := nI (x - 1)) (zz_prd (by omega)) ?_
        refine zz_iald hC hK hZ 1 0 (x - 1) (Nat.le_of_ble_eq_true rfl) (mc_1 q _ _) rfl rfl (by omega) (by decide) rfl d_Model_combine_127 ?_
        refine zz_topi (y := nI ((rl (x - 1)).1)) hrr.1 ?_
        refine lv_istore_n (i := 3) (lv' := [(3, .int (nI ((rl (x - 1)).1))), (0, .ref (zz_ad (mg_G q) 0)), (1, .int (nI o)), (2, .int (nI x - 1))]) hx_ hb_ d_Model_combine_128 rfl hl (by decide) rfl (fun ls hl => ?_)
        refine lv_aload_n hx_ hb_ d_Model_combine_129 rfl (lv_at hl 1 rfl) ?_
        refine lv_iload_n hx_ hb_ d_Model_combine_130 rfl (lv_at hl 3 rfl) ?_
        refine zz_topi (y := nI (x - 1)) (zz_prd (by omega)) ?_
        refine lv_iload_n hx_ hb_ d_Model_combine_131 rfl (lv_at hl 2 rfl) ?_
        refine zz_clg (zz_rV (As := [.int (nI (x - 1)), .int (nI o)]) (rest := []) hC hK hZ 0 (c_Model_through l q Si (x - 1) (mp_G rl R o lf rt 5) rl R hBi o lf rt ho hlfi hrti hlb hrb (by omega) hg) k_Model_through (Nat.le_of_ble_eq_true rfl) (mc_0 q _ _) rfl wd_645 ⟨rfl, rfl, by decide, by decide⟩ rfl hl.1 rfl (Nat.le_of_ble_eq_true rfl) d_Model_combine_132 ⟨Nat.zero_le _, Nat.zero_le _⟩) hZ (fun r132 S132 H locs hp132 hZ => ?_)
        obtain ⟨rfl, rfl⟩ := hp132
        refine lv_lstore (i := 4) (lv' := [(4, .long (lN (mx_th rl o lf rt (mp_G rl R o lf rt 5) (x - 1)))), (3, .int (nI ((rl (x - 1)).1))), (0, .ref (zz_ad (mg_G q) 0)), (1, .int (nI o)), (2, .int (nI x - 1))]) hx_ hb_ d_Model_combine_135 hl (by decide) rfl (fun ls hl => ?_)
        refine lv_aload_n hx_ hb_ d_Model_combine_137 rfl (lv_at hl 2 rfl) ?_
        refine zz_get hC hK hZ 0 18 (Nat.le_of_ble_eq_true rfl) (mc_0 q _ _) rfl hin_Model (by decide) wd_525 rfl rfl d_Model_combine_138 ?_
        refine lv_iload_n hx_ hb_ d_Model_combine_141 rfl (lv_at hl 1 rfl) ?_
        refine lv_aload_n hx_ hb_ d_Model_combine_142 rfl (lv_at hl 2 rfl) ?_
        refine zz_get hC hK hZ 0 17 (Nat.le_of_ble_eq_true rfl) (mc_0 q _ _) rfl hin_Model (by decide) wd_524 rfl rfl d_Model_combine_143 ?_
        refine lv_iload_n hx_ hb_ d_Model_combine_146 rfl (lv_at hl 1 rfl) ?_
        refine zz_lald hC hK hZ 15 1 ((rl (x - 1)).1) (Nat.le_of_ble_eq_true rfl) (mc_15 q _ _) rfl rfl (by omega) (by decide) rfl d_Model_combine_147 ?_
        refine zz_topl (y := lN (mp_G rl R o lf rt 5 (rl (x - 1)).1)) (hg _ hokr.1) ?_
        refine lv_ldc2 (v := lN 1125899906842624) hx_ hb_ hC.2.2.2.1 (hC.2.2.2.2.1 _ wd_644) d_Model_combine_148 ?_
        refine W.lcmp hx_ hb_ d_Model_combine_151 ?_
        refine lv_if_ge (tgt := 171) hx_ hb_ d_Model_combine_152 (by decide) (fun h152 => ?_) (fun h152 => ?_)
        · have h152 : (lN 1125899906842624) ≤ (lN (mp_G rl R o lf rt 5 (rl (x - 1)).1)) := (lg_cmp_ge _ _).mp h152
          rw [pk_lLE (by omega) (by omega)] at h152
          refine lv_aload_n hx_ hb_ d_Model_combine_171 rfl (lv_at hl 2 rfl) ?_
          refine zz_get hC hK hZ 0 18 (Nat.le_of_ble_eq_true rfl) (mc_0 q _ _) rfl hin_Model (by decide) wd_525 rfl rfl d_Model_combine_172 ?_
          refine lv_iload_n hx_ hb_ d_Model_combine_175 rfl (lv_at hl 1 rfl) ?_
          refine zz_iald hC hK hZ 16 0 ((rl (x - 1)).1) (Nat.le_of_ble_eq_true rfl) (mc_16 q _ _) rfl rfl (by omega) (by decide) rfl d_Model_combine_176 ?_
          refine zz_topi (y := vw_p (mp_pk rl o lf rt (mp_G rl R o lf rt 5) R (R - x) (rl (x - 1)).1)) (hpk _ hokr.1) ?_
          refine zz_iast hC hK hZ 16 0 ((rl (x - 1)).1) (Nat.le_of_ble_eq_true rfl) (fun _ => mc_16 q _ _) rfl rfl (by omega) (by decide) d_Model_combine_177 (fun H locs hZ => ?_)
          refine lv_iinc (k := 4) (v := nI (x - 1) - 1) (lv' := [(2, .int (nI (x - 1) - 1)), (4, .long (lN (mx_th rl o lf rt (mp_G rl R o lf rt 5) (x - 1)))), (3, .int (nI ((rl (x - 1)).1))), (0, .ref (zz_ad (mg_G q) 0)), (1, .int (nI o))]) hx_ hb_ d_Model_combine_178 hl rfl (zz_prd1 (by omega)) (by decide) rfl (fun ls hl => ?_)
          refine lv_goto (tgt := 118) hx_ hb_ d_Model_combine_181 (by decide) ?_
          exact ih_ _ (by omega) (x - 1) (zz_u Si 16 ((rl (x - 1)).1) (vw_p (mp_pk rl o lf rt (mp_G rl R o lf rt 5) R (R - x) (rl (x - 1)).1)))  _ _ _ (by omega) (zz_off_tr ho1 (fun d hd => ⟨zz_u1 Si 16 _ _ d (fun h => hd (Or.inr h)), rfl⟩)) hg (fun k hk => by
            rw [zz_u1s, show R - (x - 1) = (R - x) + 1 by omega, mp_pk_s, show R - 1 - (R - x) = x - 1 by omega]
            by_cases e : k = (rl (x - 1)).1
            · rw [e, pk_us]
              rw [if_neg (fun h => by first | exact absurd h.2.1 (by omega) | exact h164 h.2.2)]
            · rw [pk_un e, if_neg (fun h => e h.1)]
              exact hpk k hk) hZ (lv_sub hl [3, 4, 0] rfl) rfl
        · have h152 : ¬ ((lN 1125899906842624) ≤ (lN (mp_G rl R o lf rt 5 (rl (x - 1)).1))) := fun x => h152 ((lg_cmp_ge _ _).mpr x)
          rw [pk_lLE (by omega) (by omega)] at h152
          refine lv_lload hx_ hb_ d_Model_combine_155 (lv_at hl 0 rfl) ?_
          refine lv_aload_n hx_ hb_ d_Model_combine_157 rfl (lv_at hl 2 rfl) ?_
          refine zz_get hC hK hZ 0 17 (Nat.le_of_ble_eq_true rfl) (mc_0 q _ _) rfl hin_Model (by decide) wd_524 rfl rfl d_Model_combine_158 ?_
          refine lv_iload_n hx_ hb_ d_Model_combine_161 rfl (lv_at hl 1 rfl) ?_
          refine zz_lald hC hK hZ 15 1 ((rl (x - 1)).1) (Nat.le_of_ble_eq_true rfl) (mc_15 q _ _) rfl rfl (by omega) (by decide) rfl d_Model_combine_162 ?_
          refine zz_topl (y := lN (mp_G rl R o lf rt 5 (rl (x - 1)).1)) (hg _ hokr.1) ?_
          refine W.lcmp hx_ hb_ d_Model_combine_163 ?_
          refine lv_if_ne (tgt := 171) hx_ hb_ d_Model_combine_164 (by decide) (fun h164 => ?_) (fun h164 => ?_)
          · have h164 : ¬ ((lN (mx_th rl o lf rt (mp_G rl R o lf rt 5) (x - 1))) = (lN (mp_G rl R o lf rt 5 (rl (x - 1)).1))) := fun x => h164 ((lg_cmp_eq _ _).mpr x)
            rw [pk_lEQ (by omega) (by omega)] at h164
            refine lv_aload_n hx_ hb_ d_Model_combine_171 rfl (lv_at hl 2 rfl) ?_
            refine zz_get hC hK hZ 0 18 (Nat.le_of_ble_eq_true rfl) (mc_0 q _ _) rfl hin_Model (by decide) wd_525 rfl rfl d_Model_combine_172 ?_
            refine lv_iload_n hx_ hb_ d_Model_combine_175 rfl (lv_at hl 1 rfl) ?_
            refine zz_iald hC hK hZ 16 0 ((rl (x - 1)).1) (Nat.le_of_ble_eq_true rfl) (mc_16 q _ _) rfl rfl (by omega) (by decide) rfl d_Model_combine_176 ?_
            refine zz_topi (y := vw_p (mp_pk rl o lf rt (mp_G rl R o lf rt 5) R (R - x) (rl (x - 1)).1)) (hpk _ hokr.1) ?_
            refine zz_iast hC hK hZ 16 0 ((rl (x - 1)).1) (Nat.le_of_ble_eq_true rfl) (fun _ => mc_16 q _ _) rfl rfl (by omega) (by decide) d_Model_combine_177 (fun H locs hZ => ?_)
            refine lv_iinc (k := 4) (v := nI (x - 1) - 1) (lv' := [(2, .int (nI (x - 1) - 1)), (4, .long (lN (mx_th rl o lf rt (mp_G rl R o lf rt 5) (x - 1)))), (3, .int (nI ((rl (x - 1)).1))), (0, .ref (zz_ad (mg_G q) 0)), (1, .int (nI o))]) hx_ hb_ d_Model_combine_178 hl rfl (zz_prd1 (by omega)) (by decide) rfl (fun ls hl => ?_)
            refine lv_goto (tgt := 118) hx_ hb_ d_Model_combine_181 (by decide) ?_
            exact ih_ _ (by omega) (x - 1) (zz_u Si 16 ((rl (x - 1)).1) (vw_p (mp_pk rl o lf rt (mp_G rl R o lf rt 5) R (R - x) (rl (x - 1)).1)))  _ _ _ (by omega) (zz_off_tr ho1 (fun d hd => ⟨zz_u1 Si 16 _ _ d (fun h => hd (Or.inr h)), rfl⟩)) hg (fun k hk => by
              rw [zz_u1s, show R - (x - 1) = (R - x) + 1 by omega, mp_pk_s, show R - 1 - (R - x) = x - 1 by omega]
              by_cases e : k = (rl (x - 1)).1
              · rw [e, pk_us]
                rw [if_neg (fun h => by first | exact absurd h.2.1 (by omega) | exact h164 h.2.2)]
              · rw [pk_un e, if_neg (fun h => e h.1)]
                exact hpk k hk) hZ (lv_sub hl [3, 4, 0] rfl) rfl
          · have h164 : (lN (mx_th rl o lf rt (mp_G rl R o lf rt 5) (x - 1))) = (lN (mp_G rl R o lf rt 5 (rl (x - 1)).1)) := (lg_cmp_eq _ _).mp h164
            rw [pk_lEQ (by omega) (by omega)] at h164
            refine lv_iload_n hx_ hb_ d_Model_combine_167 rfl (lv_at hl 4 rfl) ?_
            refine zz_topi (y := nI (x - 1)) (zz_prd (by omega)) ?_
            refine lv_goto (tgt := 177) hx_ hb_ d_Model_combine_168 (by decide) ?_
            refine zz_iast hC hK hZ 16 0 ((rl (x - 1)).1) (Nat.le_of_ble_eq_true rfl) (fun _ => mc_16 q _ _) rfl rfl (by omega) (by decide) d_Model_combine_177 (fun H locs hZ => ?_)
            refine lv_iinc (k := 4) (v := nI (x - 1) - 1) (lv' := [(2, .int (nI (x - 1) - 1)), (4, .long (lN (mx_th rl o lf rt (mp_G rl R o lf rt 5) (x - 1)))), (3, .int (nI ((rl (x - 1)).1))), (0, .ref (zz_ad (mg_G q) 0)), (1, .int (nI o))]) hx_ hb_ d_Model_combine_178 hl rfl (zz_prd1 (by omega)) (by decide) rfl (fun ls hl => ?_)
            refine lv_goto (tgt := 118) hx_ hb_ d_Model_combine_181 (by decide) ?_
            exact ih_ _ (by omega) (x - 1) (zz_u Si 16 ((rl (x - 1)).1) (nI (x - 1)))  _ _ _ (by omega) (zz_off_tr ho1 (fun d hd => ⟨zz_u1 Si 16 _ _ d (fun h => hd (Or.inr h)), rfl⟩)) hg (fun k hk => by
              rw [zz_u1s, show R - (x - 1) = (R - x) + 1 by omega, mp_pk_s, show R - 1 - (R - x) = x - 1 by omega]
              by_cases e : k = (rl (x - 1)).1
              · rw [e, pk_us]
                rw [if_pos ⟨rfl, by rw [vw_far]; omega, h164⟩, vw_p_in (by omega)]
              · rw [pk_un e, if_neg (fun h => e h.1)]
                exact hpk k hk) hZ (lv_sub hl [3, 4, 0] rfl) rfl
  have L118 : ∀ (x : Nat) (Si : zz_S) (H : Heap) (locs : List Loc) (ls : Array Slot) (hx : x ≤ R) (ho1 : zz_off (fun c => c = 15 ∨ c = 16) S Si) (hg : mg_ok Si 15 (mp_G rl R o lf rt 5)) (hpk : ∀ k, k < 4 → Si.1 16 k = vw_p (mp_pk rl o lf rt (mp_G rl R o lf rt 5) R (R - x) k)) (hZ : zz_Z (mg_G q) Si s_.heap H locs) (hl : lv_has ls 6 [(0, .ref (zz_ad (mg_G q) 0)), (1, .int (nI o)), (2, .int (nI x - 1))]), W p_ l e_ rm_Model_combine s_ m_ ([.ref (zz_ad (mg_G q) 0), .int (nI o)] : List Value).toArray bl_ mt_ c_ H locs 0 0 (MQ bl_ (va_Qv (fun S1 => zz_off (fun c => c = 15 ∨ c = 16) S S1 ∧ ∃ g y, mx_Lab rl R o lf rt g y ∧ ∀ k, k < 4 → S1.2 15 k = lN (g k) ∧ S1.1 16 k = vw_p (y k)) (zz_P (mg_G q)) (zz_A (mg_G q))) ([.ref (zz_ad (mg_G q) 0), .int (nI o)] : List Value).toArray s_ 0 0 (zz_A (mg_G q))) (F0 m_ 118 ls []) := fun x Si H locs ls hx ho1 hg hpk hZ hl => L118_ _ x Si H locs ls hx ho1 hg hpk hZ hl rfl
  have L39_ : ∀ (n_ : Nat) (t : Nat) (r : Nat) (Si : zz_S) (hk105 : ∀ (Si : zz_S) (H : Heap) (locs : List Loc) (ls : Array Slot) (ho1 : zz_off (fun c => c = 15 ∨ c = 16) S Si) (hg : mg_ok Si 15 (mp_G rl R o lf rt (t + 1))) (hp0 : ∀ k, k < 4 → Si.1 16 k = vw_p 24) (hZ : zz_Z (mg_G q) Si s_.heap H locs) (hl : lv_has ls 6 [(0, .ref (zz_ad (mg_G q) 0)), (1, .int (nI o)), (2, .int (nI t))]), W p_ l e_ rm_Model_combine s_ m_ ([.ref (zz_ad (mg_G q) 0), .int (nI o)] : List Value).toArray bl_ mt_ c_ H locs 0 0 (MQ bl_ (va_Qv (fun S1 => zz_off (fun c => c = 15 ∨ c = 16) S S1 ∧ ∃ g y, mx_Lab rl R o lf rt g y ∧ ∀ k, k < 4 → S1.2 15 k = lN (g k) ∧ S1.1 16 k = vw_p (y k)) (zz_P (mg_G q)) (zz_A (mg_G q))) ([.ref (zz_ad (mg_G q) 0), .int (nI o)] : List Value).toArray s_ 0 0 (zz_A (mg_G q))) (F0 m_ 105 ls [])) (H : Heap) (locs : List Loc) (ls : Array Slot) (ht : t < 5) (hr : r ≤ R) (ho1 : zz_off (fun c => c = 15 ∨ c = 16) S Si) (hg : mg_ok Si 15 (mx_sw rl o lf rt (fun _ => true) (mp_G rl R o lf rt t) r)) (hp0 : ∀ k, k < 4 → Si.1 16 k = vw_p 24) (hZ : zz_Z (mg_G q) Si s_.heap H locs) (hl : lv_has ls 6 [(0, .ref (zz_ad (mg_G q) 0)), (1, .int (nI o)), (2, .int (nI t)), (3, .int (nI r))]) (hn_ : R - r = n_), W p_ l e_ rm_Model_combine s_ m_ ([.ref (zz_ad (mg_G q) 0), .int (nI o)] : List Value).toArray bl_ mt_ c_ H locs 0 0 (MQ bl_ (va_Qv (fun S1 => zz_off (fun c => c = 15 ∨ c = 16) S S1 ∧ ∃ g y, mx_Lab rl R o lf rt g y ∧ ∀ k, k < 4 → S1.2 15 k = lN (g k) ∧ S1.1 16 k = vw_p (y k)) (zz_P (mg_G q)) (zz_A (mg_G q))) ([.ref (zz_ad (mg_G q) 0), .int (nI o)] : List Value).toArray s_ 0 0 (zz_A (mg_G q))) (F0 m_ 39 ls []) := by
    intro n_
    induction n_ using Nat.strongRecOn with
    | ind n_ ih_ =>
      intro t r Si hk105 H locs ls ht hr ho1 hg hp0 hZ hl hn_
      have hBi : mb_ok Si rl R := mb_keep hB (by rw [(ho1 0 (by omega)).1]) (fun c h1 h2 => (ho1 c (by omega)).1)
      have hlfi : 0 < zz_kd o → mg_ok Si 13 lf := fun h => mg_off (hlf h) (ho1 13 (by omega)).2
      have hrti : 1 < zz_kd o → mg_ok Si 14 rt := fun h => mg_off (hrt h) (ho1 14 (by omega)).2
      refine lv_iload_n hx_ hb_ d_Model_combine_39 rfl (lv_at hl 3 rfl) ?_
      refine lv_aload_n hx_ hb_ d_Model_combine_40 rfl (lv_at hl 0 rfl) ?_
      refine zz_get hC hK hZ 0 0 (Nat.le_of_ble_eq_true rfl) (mc_0 q _ _) rfl hin_Model (by decide) wd_507 rfl rfl d_Model_combine_41 ?_
      refine zz_topi (y := nI R) hBi.1 ?_
      refine zz_jge (tgt := 105) hC d_Model_combine_44 (by decide) (by omega) (by omega) (fun h44 => ?_) (fun h44 => ?_)
      · exact hk105 Si  _ _ _ ho1 (by rw [show r = R by omega] at hg; exact hg) hp0 hZ (lv_sub hl [0, 1, 2] rfl)
      · have hrr := hBi.2.2.2 r (by omega)
        have hokr := hok r (by omega)
        have hthb := mm_th_le (o := o) (g := mx_sw rl o lf rt (fun _ => true) (mp_G rl R o lf rt t) r) hok (show r < R by omega) hlb hrb (fun k _ => mm_sw_le (P := fun _ => true) t r k)
        have hswb := mm_sw_le (rl := rl) (o := o) (lf := lf) (rt := rt) (P := fun _ => true) (R := R) t r (rl r).1
        refine lv_aload_n hx_ hb_ d_Model_combine_47 rfl (lv_at hl 0 rfl) ?_
        refine lv_iload_n hx_ hb_ d_Model_combine_48 rfl (lv_at hl 3 rfl) ?_
        refine lv_iload_n hx_ hb_ d_Model_combine_49 rfl (lv_at hl 1 rfl) ?_
        refine zz_clg (zz_rV (As := [.int (nI r), .int (nI o)]) (rest := []) hC hK hZ 0 (c_Model_through l q Si r (mx_sw rl o lf rt (fun _ => true) (mp_G rl R o lf rt t) r) rl R hBi o lf rt ho hlfi hrti hlb hrb (by omega) hg) k_Model_through (Nat.le_of_ble_eq_true rfl) (mc_0 q _ _) rfl wd_645 ⟨rfl, rfl, by decide, by decide⟩ rfl hl.1 rfl (Nat.le_of_ble_eq_true rfl) d_Model_combine_50 ⟨Nat.zero_le _, Nat.zero_le _⟩) hZ (fun r50 S50 H locs hp50 hZ => ?_)
        obtain ⟨rfl, rfl⟩ := hp50
        refine lv_lstore (i := 4) (lv' := [(4, .long (lN (mx_th rl o lf rt (mx_sw rl o lf rt (fun _ => true) (mp_G rl R o lf rt t) r) r))), (0, .ref (zz_ad (mg_G q) 0)), (1, .int (nI o)), (2, .int (nI t)), (3, .int (nI r))]) hx_ hb_ d_Model_combine_53 hl (by decide) rfl (fun ls hl => ?_)
        refine lv_aload_n hx_ hb_ d_Model_combine_55 rfl (lv_at hl 1 rfl) ?_
        refine zz_get hC hK hZ 0 17 (Nat.le_of_ble_eq_true rfl) (mc_0 q _ _) rfl hin_Model (by decide) wd_524 rfl rfl d_Model_combine_56 ?_
        refine lv_aload_n hx_ hb_ d_Model_combine_59 rfl (lv_at hl 1 rfl) ?_
        refine zz_get hC hK hZ 0 1 (Nat.le_of_ble_eq_true rfl) (mc_0 q _ _) rfl hin_Model (by decide) wd_508 rfl rfl d_Model_combine_60 ?_
        refine lv_iload_n hx_ hb_ d_Model_combine_63 rfl (lv_at hl 4 rfl) ?_
        refine zz_iald hC hK hZ 1 0 r (Nat.le_of_ble_eq_true rfl) (mc_1 q _ _) rfl rfl (by omega) (by decide) rfl d_Model_combine_64 ?_
        refine zz_topi (y := nI ((rl r).1)) hrr.1 ?_
        refine lv_lload hx_ hb_ d_Model_combine_65 (lv_at hl 0 rfl) ?_
        refine lv_aload_n hx_ hb_ d_Model_combine_67 rfl (lv_at hl 1 rfl) ?_
        refine zz_get hC hK hZ 0 17 (Nat.le_of_ble_eq_true rfl) (mc_0 q _ _) rfl hin_Model (by decide) wd_524 rfl rfl d_Model_combine_68 ?_
        refine lv_aload_n hx_ hb_ d_Model_combine_71 rfl (lv_at hl 1 rfl) ?_
        refine zz_get hC hK hZ 0 1 (Nat.le_of_ble_eq_true rfl) (mc_0 q _ _) rfl hin_Model (by decide) wd_508 rfl rfl d_Model_combine_72 ?_
        refine lv_iload_n hx_ hb_ d_Model_combine_75 rfl (lv_at hl 4 rfl) ?_
        refine zz_iald hC hK hZ 1 0 r (Nat.le_of_ble_eq_true rfl) (mc_1 q _ _) rfl rfl (by omega) (by decide) rfl d_Model_combine_76 ?_
        refine zz_topi (y := nI ((rl r).1)) hrr.1 ?_
        refine zz_lald hC hK hZ 15 1 ((rl r).1) (Nat.le_of_ble_eq_true rfl) (mc_15 q _ _) rfl rfl (by omega) (by decide) rfl d_Model_combine_77 ?_
        refine zz_topl (y := lN (mx_sw rl o lf rt (fun _ => true) (mp_G rl R o lf rt t) r (rl r).1)) (hg _ hokr.1) ?_
        refine W.lcmp hx_ hb_ d_Model_combine_78 ?_
        refine lv_if_ge (tgt := 87) hx_ hb_ d_Model_combine_79 (by decide) (fun h79 => ?_) (fun h79 => ?_)
        · have h79 : (lN (mx_sw rl o lf rt (fun _ => true) (mp_G rl R o lf rt t) r (rl r).1)) ≤ (lN (mx_th rl o lf rt (mx_sw rl o lf rt (fun _ => true) (mp_G rl R o lf rt t) r) r)) := (lg_cmp_ge _ _).mp h79
          rw [pk_lLE (by omega) (by omega)] at h79
          refine lv_aload_n hx_ hb_ d_Model_combine_87 rfl (lv_at hl 1 rfl) ?_
          refine zz_get hC hK hZ 0 17 (Nat.le_of_ble_eq_true rfl) (mc_0 q _ _) rfl hin_Model (by decide) wd_524 rfl rfl d_Model_combine_88 ?_
          refine lv_aload_n hx_ hb_ d_Model_combine_91 rfl (lv_at hl 1 rfl) ?_
          refine zz_get hC hK hZ 0 1 (Nat.le_of_ble_eq_true rfl) (mc_0 q _ _) rfl hin_Model (by decide) wd_508 rfl rfl d_Model_combine_92 ?_
          refine lv_iload_n hx_ hb_ d_Model_combine_95 rfl (lv_at hl 4 rfl) ?_
          refine zz_iald hC hK hZ 1 0 r (Nat.le_of_ble_eq_true rfl) (mc_1 q _ _) rfl rfl (by omega) (by decide) rfl d_Model_combine_96 ?_
          refine zz_topi (y := nI ((rl r).1)) hrr.1 ?_
          refine zz_lald hC hK hZ 15 1 ((rl r).1) (Nat.le_of_ble_eq_true rfl) (mc_15 q _ _) rfl rfl (by omega) (by decide) rfl d_Model_combine_97 ?_
          refine zz_topl (y := lN (mx_sw rl o lf rt (fun _ => true) (mp_G rl R o lf rt t) r (rl r).1)) (hg _ hokr.1) ?_
          refine zz_last hC hK hZ 15 1 ((rl r).1) (Nat.le_of_ble_eq_true rfl) (fun _ => mc_15 q _ _) rfl rfl (by omega) (by decide) d_Model_combine_98 (fun H locs hZ => ?_)
          refine lv_iinc (k := 4) (v := nI (r + 1)) (lv' := [(3, .int (nI (r + 1))), (4, .long (lN (mx_th rl o lf rt (mx_sw rl o lf rt (fun _ => true) (mp_G rl R o lf rt t) r) r))), (0, .ref (zz_ad (mg_G q) 0)), (1, .int (nI o)), (2, .int (nI t))]) hx_ hb_ d_Model_combine_99 hl rfl (nI_add _ 1) (by decide) rfl (fun ls hl => ?_)
          refine lv_goto (tgt := 39) hx_ hb_ d_Model_combine_102 (by decide) ?_
          exact ih_ _ (by omega) t (r + 1) (zz_v Si 15 ((rl r).1) (lN (mx_sw rl o lf rt (fun _ => true) (mp_G rl R o lf rt t) r (rl r).1))) hk105 _ _ _ ht (by omega) (zz_off_tr ho1 (fun d hd => ⟨rfl, zz_v2 Si 15 _ _ d (fun h => hd (Or.inl h))⟩)) (mg_set hg (by rw [mx_sw_s, if_neg (fun h => absurd h.2.2 (by omega))]) (fun j hj hne => by rw [mx_sw_s, if_neg (fun h => hne h.2.1)])) hp0 hZ (lv_sub hl [2, 3, 4, 0] rfl) rfl
        · have h79 : ¬ ((lN (mx_sw rl o lf rt (fun _ => true) (mp_G rl R o lf rt t) r (rl r).1)) ≤ (lN (mx_th rl o lf rt (mx_sw rl o lf rt (fun _ => true) (mp_G rl R o lf rt t) r) r))) := fun x => h79 ((lg_cmp_ge _ _).mpr x)
          rw [pk_lLE (by omega) (by omega)] at h79
          refine lv_lload hx_ hb_ d_Model_combine_82 (lv_at hl 0 rfl) ?_
          refine lv_goto (tgt := 98) hx_ hb_ d_Model_combine_84 (by decide) ?_
          refine zz_last hC hK hZ 15 1 ((rl r).1) (Nat.le_of_ble_eq_true rfl) (fun _ => mc_15 q _ _) rfl rfl (by omega) (by decide) d_Model_combine_98 (fun H locs hZ => ?_)
          refine lv_iinc (k := 4) (v := nI (r + 1)) (lv' := [(3, .int (nI (r + 1))), (4, .long (lN (mx_th rl o lf rt (mx_sw rl o lf rt (fun _ => true) (mp_G rl R o lf rt t) r) r))), (0, .ref (zz_ad (mg_G q) 0)), (1, .int (nI o)), (2, .int (nI t))]) hx_ hb_ d_Model_combine_99 hl rfl (nI_add _ 1) (by decide) rfl (fun ls hl => ?_)
          refine lv_goto (tgt := 39) hx_ hb_ d_Model_combine_102 (by decide) ?_
          exact ih_ _ (by omega) t (r + 1) (zz_v Si 15 ((rl r).1) (lN (mx_th rl o lf rt (mx_sw rl o lf rt (fun _ => true) (mp_G rl R o lf rt t) r) r))) hk105 _ _ _ ht (by omega) (zz_off_tr ho1 (fun d hd => ⟨rfl, zz_v2 Si 15 _ _ d (fun h => hd (Or.inl h))⟩)) (mg_set hg (by rw [mx_sw_s, if_pos ⟨rfl, rfl, by omega⟩]) (fun j hj hne => by rw [mx_sw_s, if_neg (fun h => hne h.2.1)])) hp0 hZ (lv_sub hl [2, 3, 4, 0] rfl) rfl
  have L39 : ∀ (t : Nat) (r : Nat) (Si : zz_S) (hk105 : ∀ (Si : zz_S) (H : Heap) (locs : List Loc) (ls : Array Slot) (ho1 : zz_off (fun c => c = 15 ∨ c = 16) S Si) (hg : mg_ok Si 15 (mp_G rl R o lf rt (t + 1))) (hp0 : ∀ k, k < 4 → Si.1 16 k = vw_p 24) (hZ : zz_Z (mg_G q) Si s_.heap H locs) (hl : lv_has ls 6 [(0, .ref (zz_ad (mg_G q) 0)), (1, .int (nI o)), (2, .int (nI t))]), W p_ l e_ rm_Model_combine s_ m_ ([.ref (zz_ad (mg_G q) 0), .int (nI o)] : List Value).toArray bl_ mt_ c_ H locs 0 0 (MQ bl_ (va_Qv (fun S1 => zz_off (fun c => c = 15 ∨ c = 16) S S1 ∧ ∃ g y, mx_Lab rl R o lf rt g y ∧ ∀ k, k < 4 → S1.2 15 k = lN (g k) ∧ S1.1 16 k = vw_p (y k)) (zz_P (mg_G q)) (zz_A (mg_G q))) ([.ref (zz_ad (mg_G q) 0), .int (nI o)] : List Value).toArray s_ 0 0 (zz_A (mg_G q))) (F0 m_ 105 ls [])) (H : Heap) (locs : List Loc) (ls : Array Slot) (ht : t < 5) (hr : r ≤ R) (ho1 : zz_off (fun c => c = 15 ∨ c = 16) S Si) (hg : mg_ok Si 15 (mx_sw rl o lf rt (fun _ => true) (mp_G rl R o lf rt t) r)) (hp0 : ∀ k, k < 4 → Si.1 16 k = vw_p 24) (hZ : zz_Z (mg_G q) Si s_.heap H locs) (hl : lv_has ls 6 [(0, .ref (zz_ad (mg_G q) 0)), (1, .int (nI o)), (2, .int (nI t)), (3, .int (nI r))]), W p_ l e_ rm_Model_combine s_ m_ ([.ref (zz_ad (mg_G q) 0), .int (nI o)] : List Value).toArray bl_ mt_ c_ H locs 0 0 (MQ bl_ (va_Qv (fun S1 => zz_off (fun c => c = 15 ∨ c = 16) S S1 ∧ ∃ g y, mx_Lab rl R o lf rt g y ∧ ∀ k, k < 4 → S1.2 15 k = lN (g k) ∧ S1.1 16 k = vw_p (y k)) (zz_P (mg_G q)) (zz_A (mg_G q))) ([.ref (zz_ad (mg_G q) 0), .int (nI o)] : List Value).toArray s_ 0 0 (zz_A (mg_G q))) (F0 m_ 39 ls []) := fun t r Si hk105 H locs ls ht hr ho1 hg hp0 hZ hl => L39_ _ t r Si hk105 H locs ls ht hr ho1 hg hp0 hZ hl rfl
  have L32_ : ∀ (n_ : Nat) (t : Nat) (Si : zz_S) (H : Heap) (locs : List Loc) (ls : Array Slot) (ht : t ≤ 5) (ho1 : zz_off (fun c => c = 15 ∨ c = 16) S Si) (hg : mg_ok Si 15 (mp_G rl R o lf rt t)) (hp0 : ∀ k, k < 4 → Si.1 16 k = vw_p 24) (hZ : zz_Z (mg_G q) Si s_.heap H locs) (hl : lv_has ls 6 [(0, .ref (zz_ad (mg_G q) 0)), (1, .int (nI o)), (2, .int (nI t))]) (hn_ : 5 - t = n_), W p_ l e_ rm_Model_combine s_ m_ ([.ref (zz_ad (mg_G q) 0), .int (nI o)] : List Value).toArray bl_ mt_ c_ H locs 0 0 (MQ bl_ (va_Qv (fun S1 => zz_off (fun c => c = 15 ∨ c = 16) S S1 ∧ ∃ g y, mx_Lab rl R o lf rt g y ∧ ∀ k, k < 4 → S1.2 15 k = lN (g k) ∧ S1.1 16 k = vw_p (y k)) (zz_P (mg_G q)) (zz_A (mg_G q))) ([.ref (zz_ad (mg_G q) 0), .int (nI o)] : List Value).toArray s_ 0 0 (zz_A (mg_G q))) (F0 m_ 32 ls []) := by
    intro n_
    induction n_ using Nat.strongRecOn with
    | ind n_ ih_ =>
      intro t Si H locs ls ht ho1 hg hp0 hZ hl hn_
      have hBi : mb_ok Si rl R := mb_keep hB (by rw [(ho1 0 (by omega)).1]) (fun c h1 h2 => (ho1 c (by omega)).1)
      have hlfi : 0 < zz_kd o → mg_ok Si 13 lf := fun h => mg_off (hlf h) (ho1 13 (by omega)).2
      have hrti : 1 < zz_kd o → mg_ok Si 14 rt := fun h => mg_off (hrt h) (ho1 14 (by omega)).2
      refine lv_iload_n hx_ hb_ d_Model_combine_32 rfl (lv_at hl 2 rfl) ?_
      refine lv_iconst (v := nI 5) hx_ hb_ d_Model_combine_33 (by decide) ?_
      refine zz_jge (tgt := 111) hC d_Model_combine_34 (by decide) (by omega) (by omega) (fun h34 => ?_) (fun h34 => ?_)
      · have ht5 : t = 5 := by omega
        rw [ht5] at hg
        refine lv_aload_n hx_ hb_ d_Model_combine_111 rfl (lv_at hl 0 rfl) ?_
        refine zz_get hC hK hZ 0 0 (Nat.le_of_ble_eq_true rfl) (mc_0 q _ _) rfl hin_Model (by decide) wd_507 rfl rfl d_Model_combine_112 ?_
        refine zz_topi (y := nI R) hBi.1 ?_
        refine lv_iconst (v := nI 1) hx_ hb_ d_Model_combine_115 (by decide) ?_
        refine lv_isub hx_ hb_ d_Model_combine_116 ?_
        refine zz_topi (y := nI R - 1) rfl ?_
        refine lv_istore_n (i := 2) (lv' := [(2, .int (nI R - 1)), (0, .ref (zz_ad (mg_G q) 0)), (1, .int (nI o))]) hx_ hb_ d_Model_combine_117 rfl hl (by decide) rfl (fun ls hl => ?_)
        exact L118 R Si  _ _ _ (Nat.le_refl _) ho1 hg (fun k hk => by rw [Nat.sub_self]; exact hp0 k hk) hZ (lv_sub hl [1, 2, 0] rfl)
      · refine lv_iconst (v := nI 0) hx_ hb_ d_Model_combine_37 (by decide) ?_
        refine lv_istore_n (i := 3) (lv' := [(3, .int (nI 0)), (0, .ref (zz_ad (mg_G q) 0)), (1, .int (nI o)), (2, .int (nI t))]) hx_ hb_ d_Model_combine_38 rfl hl (by decide) rfl (fun ls hl => ?_)
        refine L39 t 0 Si ?_ _ _ _ (by omega) (Nat.zero_le _) ho1 hg hp0 hZ (lv_sub hl [1, 2, 3, 0] rfl)
        · intro Si H locs ls ho1 hg hp0 hZ hl
          refine lv_iinc (k := 2) (v := nI (t + 1)) (lv' := [(2, .int (nI (t + 1))), (0, .ref (zz_ad (mg_G q) 0)), (1, .int (nI o))]) hx_ hb_ d_Model_combine_105 hl rfl (nI_add _ 1) (by decide) rfl (fun ls hl => ?_)
          refine lv_goto (tgt := 32) hx_ hb_ d_Model_combine_108 (by decide) ?_
          exact ih_ _ (by omega) (t + 1) Si  _ _ _ (by omega) ho1 hg hp0 hZ (lv_sub hl [1, 2, 0] rfl) rfl
  have L32 : ∀ (t : Nat) (Si : zz_S) (H : Heap) (locs : List Loc) (ls : Array Slot) (ht : t ≤ 5) (ho1 : zz_off (fun c => c = 15 ∨ c = 16) S Si) (hg : mg_ok Si 15 (mp_G rl R o lf rt t)) (hp0 : ∀ k, k < 4 → Si.1 16 k = vw_p 24) (hZ : zz_Z (mg_G q) Si s_.heap H locs) (hl : lv_has ls 6 [(0, .ref (zz_ad (mg_G q) 0)), (1, .int (nI o)), (2, .int (nI t))]), W p_ l e_ rm_Model_combine s_ m_ ([.ref (zz_ad (mg_G q) 0), .int (nI o)] : List Value).toArray bl_ mt_ c_ H locs 0 0 (MQ bl_ (va_Qv (fun S1 => zz_off (fun c => c = 15 ∨ c = 16) S S1 ∧ ∃ g y, mx_Lab rl R o lf rt g y ∧ ∀ k, k < 4 → S1.2 15 k = lN (g k) ∧ S1.1 16 k = vw_p (y k)) (zz_P (mg_G q)) (zz_A (mg_G q))) ([.ref (zz_ad (mg_G q) 0), .int (nI o)] : List Value).toArray s_ 0 0 (zz_A (mg_G q))) (F0 m_ 32 ls []) := fun t Si H locs ls ht ho1 hg hp0 hZ hl => L32_ _ t Si H locs ls ht ho1 hg hp0 hZ hl rfl
  have L2_ : ∀ (n_ : Nat) (i : Nat) (Si : zz_S) (H : Heap) (locs : List Loc) (ls : Array Slot) (hi : i ≤ 4) (ho1 : zz_off (fun c => c = 15 ∨ c = 16) S Si) (h0 : ∀ k, k < i → Si.2 15 k = lN mx_far ∧ Si.1 16 k = vw_p 24) (hZ : zz_Z (mg_G q) Si s_.heap H locs) (hl : lv_has ls 6 [(0, .ref (zz_ad (mg_G q) 0)), (1, .int (nI o)), (2, .int (nI i))]) (hn_ : 4 - i = n_), W p_ l e_ rm_Model_combine s_ m_ ([.ref (zz_ad (mg_G q) 0), .int (nI o)] : List Value).toArray bl_ mt_ c_ H locs 0 0 (MQ bl_ (va_Qv (fun S1 => zz_off (fun c => c = 15 ∨ c = 16) S S1 ∧ ∃ g y, mx_Lab rl R o lf rt g y ∧ ∀ k, k < 4 → S1.2 15 k = lN (g k) ∧ S1.1 16 k = vw_p (y k)) (zz_P (mg_G q)) (zz_A (mg_G q))) ([.ref (zz_ad (mg_G q) 0), .int (nI o)] : List Value).toArray s_ 0 0 (zz_A (mg_G q))) (F0 m_ 2 ls []) := by
    intro n_
    induction n_ using Nat.strongRecOn with
    | ind n_ ih_ =>
      intro i Si H locs ls hi ho1 h0 hZ hl hn_
      refine lv_iload_n hx_ hb_ d_Model_combine_2 rfl (lv_at hl 2 rfl) ?_
      refine lv_iconst (v := nI 4) hx_ hb_ d_Model_combine_3 (by decide) ?_
      refine zz_jge (tgt := 30) hC d_Model_combine_4 (by decide) (by omega) (by omega) (fun h4 => ?_) (fun h4 => ?_)
      · refine lv_iconst (v := nI 0) hx_ hb_ d_Model_combine_30 (by decide) ?_
        refine lv_istore_n (i := 2) (lv' := [(2, .int (nI 0)), (0, .ref (zz_ad (mg_G q) 0)), (1, .int (nI o))]) hx_ hb_ d_Model_combine_31 rfl hl (by decide) rfl (fun ls hl => ?_)
        exact L32 0 Si  _ _ _ (by omega) ho1 (fun k hk => (h0 k (by omega)).1) (fun k hk => (h0 k (by omega)).2) hZ (lv_sub hl [1, 2, 0] rfl)
      · refine lv_aload_n hx_ hb_ d_Model_combine_7 rfl (lv_at hl 0 rfl) ?_
        refine zz_get hC hK hZ 0 17 (Nat.le_of_ble_eq_true rfl) (mc_0 q _ _) rfl hin_Model (by decide) wd_524 rfl rfl d_Model_combine_8 ?_
        refine lv_iload_n hx_ hb_ d_Model_combine_11 rfl (lv_at hl 2 rfl) ?_
        refine lv_ldc2 (v := lN 1125899906842624) hx_ hb_ hC.2.2.2.1 (hC.2.2.2.2.1 _ wd_644) d_Model_combine_12 ?_
        refine zz_last hC hK hZ 15 1 i (Nat.le_of_ble_eq_true rfl) (fun _ => mc_15 q _ _) rfl rfl (by omega) (by decide) d_Model_combine_15 (fun H locs hZ => ?_)
        refine lv_aload_n hx_ hb_ d_Model_combine_16 rfl (lv_at hl 0 rfl) ?_
        refine zz_get hC hK hZ 0 18 (Nat.le_of_ble_eq_true rfl) (mc_0 q _ _) rfl hin_Model (by decide) wd_525 rfl rfl d_Model_combine_17 ?_
        refine lv_iload_n hx_ hb_ d_Model_combine_20 rfl (lv_at hl 2 rfl) ?_
        refine lv_bipush (v := (-3)) hx_ hb_ d_Model_combine_21 (by decide) ?_
        refine zz_iast hC hK hZ 16 0 i (Nat.le_of_ble_eq_true rfl) (fun _ => mc_16 q _ _) rfl rfl (by omega) (by decide) d_Model_combine_23 (fun H locs hZ => ?_)
        refine lv_iinc (k := 2) (v := nI (i + 1)) (lv' := [(2, .int (nI (i + 1))), (0, .ref (zz_ad (mg_G q) 0)), (1, .int (nI o))]) hx_ hb_ d_Model_combine_24 hl rfl (nI_add _ 1) (by decide) rfl (fun ls hl => ?_)
        refine lv_goto (tgt := 2) hx_ hb_ d_Model_combine_27 (by decide) ?_
        exact ih_ _ (by omega) (i + 1) (zz_u (zz_v Si 15 i (lN 1125899906842624)) 16 i ((-3)))  _ _ _ (by omega) (zz_off_tr ho1 (fun d hd => ⟨zz_u1 _ 16 _ _ d (fun h => hd (Or.inr h)), zz_v2 Si 15 _ _ d (fun h => hd (Or.inl h))⟩)) (fun k hk => by
          show vp_updL (Si.2 15) i (lN 1125899906842624) k = _ ∧ upd (Si.1 16) i (-3) k = _
          by_cases e : k = i
          · rw [e, pk_uLs, pk_us]
            exact ⟨rfl, rfl⟩
          · rw [pk_uLn e, pk_un e]
            exact h0 k (by omega)) hZ (lv_sub hl [1, 2, 0] rfl) rfl
  have L2 : ∀ (i : Nat) (Si : zz_S) (H : Heap) (locs : List Loc) (ls : Array Slot) (hi : i ≤ 4) (ho1 : zz_off (fun c => c = 15 ∨ c = 16) S Si) (h0 : ∀ k, k < i → Si.2 15 k = lN mx_far ∧ Si.1 16 k = vw_p 24) (hZ : zz_Z (mg_G q) Si s_.heap H locs) (hl : lv_has ls 6 [(0, .ref (zz_ad (mg_G q) 0)), (1, .int (nI o)), (2, .int (nI i))]), W p_ l e_ rm_Model_combine s_ m_ ([.ref (zz_ad (mg_G q) 0), .int (nI o)] : List Value).toArray bl_ mt_ c_ H locs 0 0 (MQ bl_ (va_Qv (fun S1 => zz_off (fun c => c = 15 ∨ c = 16) S S1 ∧ ∃ g y, mx_Lab rl R o lf rt g y ∧ ∀ k, k < 4 → S1.2 15 k = lN (g k) ∧ S1.1 16 k = vw_p (y k)) (zz_P (mg_G q)) (zz_A (mg_G q))) ([.ref (zz_ad (mg_G q) 0), .int (nI o)] : List Value).toArray s_ 0 0 (zz_A (mg_G q))) (F0 m_ 2 ls []) := fun i Si H locs ls hi ho1 h0 hZ hl => L2_ _ i Si H locs ls hi ho1 h0 hZ hl rfl
  refine lv_iconst (v := nI 0) hx_ hb_ d_Model_combine_0 (by decide) ?_
  refine lv_istore_n (i := 2) (lv' := [(2, .int (nI 0)), (0, .ref (zz_ad (mg_G q) 0)), (1, .int (nI o))]) hx_ hb_ d_Model_combine_1 rfl hl (by decide) rfl (fun ls hl => ?_)
  exact L2 0 S  _ _ _ (Nat.zero_le _) zz_off_rf (fun k hk => absurd hk (Nat.not_lt_zero k)) hZ (lv_sub hl [1, 2, 0] rfl)
