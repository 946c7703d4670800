/-! The reference: running. Laid by wip/whole/prog/p27.py. -/
set_option maxHeartbeats 4000000 in
set_option maxRecDepth 100000 in
theorem c_Model_calculate (l : Launch) (q : xg_T) (S : zz_S) (o : Nat) (v a b : Int32) (vr : Nat → Int32) (hvr : ∀ k, k < 8 → S.1 31 k = vr k) (ho : o ≤ 8) (hv : o = 1 → v = nI v.toNatClampNeg ∧ v.toNatClampNeg < 8) : Met l y_Model_calculate (Cond.code y_Model_calculate b_Model_calculate 5 (some .int) :: zz_tbl) rm_Model_calculate (zz_Pc [.ref (zz_ad (mg_G q) 0), .int (nI o), .int v, .int a, .int b] (mg_G q) S) (va_Qi (fun ans S1 => S = S1 ∧ ans = ex_cal vr o v a b) (zz_P (mg_G q)) (zz_A (mg_G q))) 0 0 (zz_A (mg_G q)) := by
  refine zz_met (by decide) (Nat.le_of_ble_eq_true rfl) ?_
  intro p_ e_ s_ m_ bl_ mt_ c_ ls hC hK hZ hl
  have hC : zz_C p_ s_ m_ _ mt_ c_ b_Model_calculate 5 (some .int) "TreeCoverForgeModel" := hC
  have hx_ := hC.1
  have hb_ := hC.2.1
  have hl : lv_has ls 5 [(0, .ref (zz_ad (mg_G q) 0)), (1, .int (nI o)), (2, .int v), (3, .int a), (4, .int b)] := hl
  refine lv_iload_n hx_ hb_ d_Model_calculate_0 rfl (lv_at hl 1 rfl) ?_
  refine lv_iconst (v := nI 3) hx_ hb_ d_Model_calculate_1 (by decide) ?_
  refine zz_jge (tgt := 32) hC d_Model_calculate_2 (by decide) (by omega) (by omega) (fun h2 => ?_) (fun h2 => ?_)
  · refine lv_iload_n hx_ hb_ d_Model_calculate_32 rfl (lv_at hl 1 rfl) ?_
    refine lv_iconst (v := nI 5) hx_ hb_ d_Model_calculate_33 (by decide) ?_
    refine zz_jge (tgt := 51) hC d_Model_calculate_34 (by decide) (by omega) (by omega) (fun h34 => ?_) (fun h34 => ?_)
    · refine lv_iload_n hx_ hb_ d_Model_calculate_51 rfl (lv_at hl 1 rfl) ?_
      refine lv_iconst (v := nI 5) hx_ hb_ d_Model_calculate_52 (by decide) ?_
      refine zz_jne (tgt := 63) hC d_Model_calculate_53 (by decide) (by omega) (by omega) (fun h53 => ?_) (fun h53 => ?_)
      · refine lv_iload_n hx_ hb_ d_Model_calculate_63 rfl (lv_at hl 1 rfl) ?_
        refine lv_bipush (v := nI 6) hx_ hb_ d_Model_calculate_64 (by decide) ?_
        refine zz_jne (tgt := 76) hC d_Model_calculate_66 (by decide) (by omega) (by omega) (fun h66 => ?_) (fun h66 => ?_)
        · refine lv_iload_n hx_ hb_ d_Model_calculate_76 rfl (lv_at hl 1 rfl) ?_
          refine lv_bipush (v := nI 7) hx_ hb_ d_Model_calculate_77 (by decide) ?_
          refine zz_jne (tgt := 89) hC d_Model_calculate_79 (by decide) (by omega) (by omega) (fun h79 => ?_) (fun h79 => ?_)
          · refine lv_iload_n hx_ hb_ d_Model_calculate_89 rfl (lv_at hl 3 rfl) ?_
            exact zz_iret hC hK hZ rfl d_Model_calculate_90 ⟨rfl, by rw [show o = 8 by omega]; rfl⟩
          · refine lv_iload_n hx_ hb_ d_Model_calculate_82 rfl (lv_at hl 3 rfl) ?_
            refine lv_iload hx_ hb_ d_Model_calculate_83 (lv_at hl 4 rfl) ?_
            refine lv_imul hx_ hb_ d_Model_calculate_85 ?_
            refine lv_goto (tgt := 90) hx_ hb_ d_Model_calculate_86 (by decide) ?_
            exact zz_iret hC hK hZ rfl d_Model_calculate_90 ⟨rfl, by rw [show o = 7 by omega]; rfl⟩
        · refine lv_iload_n hx_ hb_ d_Model_calculate_69 rfl (lv_at hl 3 rfl) ?_
          refine lv_iload hx_ hb_ d_Model_calculate_70 (lv_at hl 4 rfl) ?_
          refine lv_isub hx_ hb_ d_Model_calculate_72 ?_
          refine lv_goto (tgt := 90) hx_ hb_ d_Model_calculate_73 (by decide) ?_
          exact zz_iret hC hK hZ rfl d_Model_calculate_90 ⟨rfl, by rw [show o = 6 by omega]; rfl⟩
      · refine lv_iload_n hx_ hb_ d_Model_calculate_56 rfl (lv_at hl 3 rfl) ?_
        refine lv_iload hx_ hb_ d_Model_calculate_57 (lv_at hl 4 rfl) ?_
        refine lv_iadd hx_ hb_ d_Model_calculate_59 ?_
        refine lv_goto (tgt := 90) hx_ hb_ d_Model_calculate_60 (by decide) ?_
        exact zz_iret hC hK hZ rfl d_Model_calculate_90 ⟨rfl, by rw [show o = 5 by omega]; rfl⟩
    · refine lv_iload_n hx_ hb_ d_Model_calculate_37 rfl (lv_at hl 1 rfl) ?_
      refine lv_iconst (v := nI 3) hx_ hb_ d_Model_calculate_38 (by decide) ?_
      refine zz_jne (tgt := 47) hC d_Model_calculate_39 (by decide) (by omega) (by omega) (fun h39 => ?_) (fun h39 => ?_)
      · refine lv_iload_n hx_ hb_ d_Model_calculate_47 rfl (lv_at hl 3 rfl) ?_
        refine lv_iload_n hx_ hb_ d_Model_calculate_48 rfl (lv_at hl 3 rfl) ?_
        refine lv_iadd hx_ hb_ d_Model_calculate_49 ?_
        exact zz_iret hC hK hZ rfl d_Model_calculate_50 ⟨rfl, by rw [show o = 4 by omega]; rfl⟩
      · refine lv_iload_n hx_ hb_ d_Model_calculate_42 rfl (lv_at hl 3 rfl) ?_
        refine lv_ineg hx_ hb_ d_Model_calculate_43 ?_
        refine lv_goto (tgt := 50) hx_ hb_ d_Model_calculate_44 (by decide) ?_
        exact zz_iret hC hK hZ rfl d_Model_calculate_50 ⟨rfl, by rw [show o = 3 by omega]; rfl⟩
  · refine lv_iload_n hx_ hb_ d_Model_calculate_5 rfl (lv_at hl 1 rfl) ?_
    refine zz_ine (tgt := 13) hC d_Model_calculate_6 (by decide) (by omega) (fun h6 => ?_) (fun h6 => ?_)
    · refine lv_iload_n hx_ hb_ d_Model_calculate_13 rfl (lv_at hl 1 rfl) ?_
      refine lv_iconst (v := nI 1) hx_ hb_ d_Model_calculate_14 (by decide) ?_
      refine zz_jne (tgt := 27) hC d_Model_calculate_15 (by decide) (by omega) (by omega) (fun h15 => ?_) (fun h15 => ?_)
      · refine lv_bipush (v := nI 100) hx_ hb_ d_Model_calculate_27 (by decide) ?_
        refine lv_iload_n hx_ hb_ d_Model_calculate_29 rfl (lv_at hl 2 rfl) ?_
        refine lv_iadd hx_ hb_ d_Model_calculate_30 ?_
        exact zz_iret hC hK hZ rfl d_Model_calculate_31 ⟨rfl, by rw [show o = 2 by omega]; show nI 100 + v = 100 + v; rw [show nI 100 = 100 by decide]⟩
      · have hv1 := hv (by omega)
        refine lv_aload_n hx_ hb_ d_Model_calculate_18 rfl (lv_at hl 0 rfl) ?_
        refine zz_get hC hK hZ 0 37 (Nat.le_of_ble_eq_true rfl) (mc_0 q _ _) rfl hin_Model (by decide) wd_544 rfl rfl d_Model_calculate_19 ?_
        refine lv_iload_n hx_ hb_ d_Model_calculate_22 rfl (lv_at hl 2 rfl) ?_
        refine zz_topi (y := nI v.toNatClampNeg) hv1.1 ?_
        refine zz_iald hC hK hZ 31 0 v.toNatClampNeg (Nat.le_of_ble_eq_true rfl) (mc_31 q _ _) rfl rfl (by omega) (by decide) rfl d_Model_calculate_23 ?_
        refine zz_topi (y := vr v.toNatClampNeg) (hvr _ hv1.2) ?_
        refine lv_goto (tgt := 31) hx_ hb_ d_Model_calculate_24 (by decide) ?_
        exact zz_iret hC hK hZ rfl d_Model_calculate_31 ⟨rfl, by rw [show o = 1 by omega]; rfl⟩
    · refine lv_iload_n hx_ hb_ d_Model_calculate_9 rfl (lv_at hl 2 rfl) ?_
      refine lv_goto (tgt := 31) hx_ hb_ d_Model_calculate_10 (by decide) ?_
      exact zz_iret hC hK hZ rfl d_Model_calculate_31 ⟨rfl, by rw [show o = 0 by omega]; rfl⟩
set_option maxHeartbeats 4000000 in
set_option maxRecDepth 100000 in
theorem c_Model_run (l : Launch) (q : xg_T) (S : zz_S) (vr : Nat → Int32) (hvr : ∀ k, k < 8 → S.1 31 k = vr k) (cs : cd_T) (hcs : mk_cd S cs) (hcd : cd_ok cs) (hnum : ∀ i, i < cs.1 → cs.2.2.2.1 i ≤ 8 ∧ (cs.2.2.2.1 i = 1 → cs.2.2.2.2.1 i = nI (cs.2.2.2.2.1 i).toNatClampNeg ∧ (cs.2.2.2.2.1 i).toNatClampNeg < 8)) : Met l y_Model_run (Cond.code y_Model_run b_Model_run 4 (some .int) :: zz_tbl) rm_Model_run (zz_Pc [.ref (zz_ad (mg_G q) 0)] (mg_G q) S) (va_Qi (fun ans S1 => zz_off (fun c => c = 27) S S1 ∧ ((cs.1 = 0 ∧ ans = nI 0) ∨ (cs.1 ≠ 0 ∧ ∃ res, ex_ok vr cs res ∧ ans = res (cs.1 - 1)))) (zz_P (mg_G q)) (zz_A (mg_G q))) 0 0 (zz_A (mg_G q)) := by
  refine zz_met (by decide) (Nat.le_of_ble_eq_true rfl) ?_
  intro p_ e_ s_ m_ bl_ mt_ c_ ls hC hK hZ hl
  have hC : zz_C p_ s_ m_ _ mt_ c_ b_Model_run 4 (some .int) "TreeCoverForgeModel" := hC
  have hx_ := hC.1
  have hb_ := hC.2.1
  have hl : lv_has ls 4 [(0, .ref (zz_ad (mg_G q) 0))] := hl
  have hn := hcs.2.1
  have L2_ : ∀ (n_ : Nat) (i : Nat) (res : Nat → Int32) (Si : zz_S) (H : Heap) (locs : List Loc) (ls : Array Slot) (hi : i ≤ cs.1) (ho1 : zz_off (fun c => c = 27) S Si) (hres : ∀ j, j < i → Si.1 27 j = res j) (hex : ∀ j, j < i → res j = ex_cal vr (cs.2.2.2.1 j) (cs.2.2.2.2.1 j) (ex_src res (cs.2.2.2.2.2.1 j)) (ex_src res (cs.2.2.2.2.2.2.1 j))) (hZ : zz_Z (mg_G q) Si s_.heap H locs) (hl : lv_has ls 4 [(0, .ref (zz_ad (mg_G q) 0)), (1, .int (nI i))]) (hn_ : cs.1 - i = n_), W p_ l e_ rm_Model_run s_ m_ ([.ref (zz_ad (mg_G q) 0)] : List Value).toArray bl_ mt_ c_ H locs 0 0 (MQ bl_ (va_Qi (fun ans S1 => zz_off (fun c => c = 27) S S1 ∧ ((cs.1 = 0 ∧ ans = nI 0) ∨ (cs.1 ≠ 0 ∧ ∃ res, ex_ok vr cs res ∧ ans = res (cs.1 - 1)))) (zz_P (mg_G q)) (zz_A (mg_G q))) ([.ref (zz_ad (mg_G q) 0)] : List Value).toArray s_ 0 0 (zz_A (mg_G q))) (F0 m_ 2 ls []) := by
    intro n_
    induction n_ using Nat.strongRecOn with
    | ind n_ ih_ =>
      intro i res Si H locs ls hi ho1 hres hex hZ hl hn_
      have hCi : mk_cd Si cs := mk_cdk hcs (by rw [(ho1 0 (by omega)).1]) (fun c h1 h2 => (ho1 c (by omega)).1)
      refine lv_iload_n hx_ hb_ d_Model_run_2 rfl (lv_at hl 1 rfl) ?_
      refine lv_aload_n hx_ hb_ d_Model_run_3 rfl (lv_at hl 0 rfl) ?_
      refine zz_get hC hK hZ 0 22 (Nat.le_of_ble_eq_true rfl) (mc_0 q _ _) rfl hin_Model (by decide) wd_529 rfl rfl d_Model_run_4 ?_
      refine zz_topi (y := nI cs.1) hCi.1 ?_
      refine zz_jge (tgt := 90) hC d_Model_run_7 (by decide) (by omega) (by omega) (fun h7 => ?_) (fun h7 => ?_)
      · refine lv_aload_n hx_ hb_ d_Model_run_90 rfl (lv_at hl 0 rfl) ?_
        refine zz_get hC hK hZ 0 22 (Nat.le_of_ble_eq_true rfl) (mc_0 q _ _) rfl hin_Model (by decide) wd_529 rfl rfl d_Model_run_91 ?_
        refine zz_topi (y := nI cs.1) hCi.1 ?_
        refine zz_ine (tgt := 101) hC d_Model_run_94 (by decide) (by omega) (fun h94 => ?_) (fun h94 => ?_)
        · refine lv_aload_n hx_ hb_ d_Model_run_101 rfl (lv_at hl 0 rfl) ?_
          refine zz_get hC hK hZ 0 33 (Nat.le_of_ble_eq_true rfl) (mc_0 q _ _) rfl hin_Model (by decide) wd_540 rfl rfl d_Model_run_102 ?_
          refine lv_aload_n hx_ hb_ d_Model_run_105 rfl (lv_at hl 0 rfl) ?_
          refine zz_get hC hK hZ 0 22 (Nat.le_of_ble_eq_true rfl) (mc_0 q _ _) rfl hin_Model (by decide) wd_529 rfl rfl d_Model_run_106 ?_
          refine zz_topi (y := nI cs.1) hCi.1 ?_
          refine lv_iconst (v := nI 1) hx_ hb_ d_Model_run_109 (by decide) ?_
          refine lv_isub hx_ hb_ d_Model_run_110 ?_
          refine zz_topi (y := nI (cs.1 - 1)) (pk_sub (by omega)) ?_
          refine zz_iald hC hK hZ 27 0 (cs.1 - 1) (Nat.le_of_ble_eq_true rfl) (mc_27 q _ _) rfl rfl (by omega) (by decide) rfl d_Model_run_111 ?_
          refine zz_topi (y := res (cs.1 - 1)) (hres _ (by omega)) ?_
          exact zz_iret hC hK hZ rfl d_Model_run_112 ⟨ho1, Or.inr ⟨by omega, res, by rw [show i = cs.1 by omega] at hex; exact hex, rfl⟩⟩
        · refine lv_iconst (v := nI 0) hx_ hb_ d_Model_run_97 (by decide) ?_
          refine lv_goto (tgt := 112) hx_ hb_ d_Model_run_98 (by decide) ?_
          exact zz_iret hC hK hZ rfl d_Model_run_112 ⟨ho1, Or.inl ⟨by omega, rfl⟩⟩
      · refine lv_aload_n hx_ hb_ d_Model_run_10 rfl (lv_at hl 0 rfl) ?_
        refine zz_get hC hK hZ 0 29 (Nat.le_of_ble_eq_true rfl) (mc_0 q _ _) rfl hin_Model (by decide) wd_536 rfl rfl d_Model_run_11 ?_
        refine lv_iload_n hx_ hb_ d_Model_run_14 rfl (lv_at hl 1 rfl) ?_
        refine zz_iald hC hK hZ 23 0 i (Nat.le_of_ble_eq_true rfl) (mc_23 q _ _) rfl rfl (by omega) (by decide) rfl d_Model_run_15 ?_
        refine zz_topi (y := vw_s (cs.2.2.2.2.2.1 i)) (hCi.2.2 i (by omega)).2.2.2.2.1 ?_
        refine zz_rige (tgt := 23) hC d_Model_run_16 (by decide) (fun h16 => ?_) (fun h16 => ?_)
        · have ha := vw_sge.1 h16
          have hai := (hcd i (by omega)).2.2.1 ha
          refine lv_aload_n hx_ hb_ d_Model_run_23 rfl (lv_at hl 0 rfl) ?_
          refine zz_get hC hK hZ 0 33 (Nat.le_of_ble_eq_true rfl) (mc_0 q _ _) rfl hin_Model (by decide) wd_540 rfl rfl d_Model_run_24 ?_
          refine lv_aload_n hx_ hb_ d_Model_run_27 rfl (lv_at hl 0 rfl) ?_
          refine zz_get hC hK hZ 0 29 (Nat.le_of_ble_eq_true rfl) (mc_0 q _ _) rfl hin_Model (by decide) wd_536 rfl rfl d_Model_run_28 ?_
          refine lv_iload_n hx_ hb_ d_Model_run_31 rfl (lv_at hl 1 rfl) ?_
          refine zz_iald hC hK hZ 23 0 i (Nat.le_of_ble_eq_true rfl) (mc_23 q _ _) rfl rfl (by omega) (by decide) rfl d_Model_run_32 ?_
          refine zz_topi (y := nI (cs.2.2.2.2.2.1 i)) (by rw [(hCi.2.2 i (by omega)).2.2.2.2.1, vw_s_in ha]) ?_
          refine zz_iald hC hK hZ 27 0 (cs.2.2.2.2.2.1 i) (Nat.le_of_ble_eq_true rfl) (mc_27 q _ _) rfl rfl (by omega) (by decide) rfl d_Model_run_33 ?_
          refine zz_topi (y := ex_src res (cs.2.2.2.2.2.1 i)) (by rw [ex_src, if_pos ha]; exact hres _ (by omega)) ?_
          refine lv_istore_n (i := 2) (lv' := [(2, .int (ex_src res (cs.2.2.2.2.2.1 i))), (0, .ref (zz_ad (mg_G q) 0)), (1, .int (nI i))]) hx_ hb_ d_Model_run_34 rfl hl (by decide) rfl (fun ls hl => ?_)
          refine lv_aload_n hx_ hb_ d_Model_run_35 rfl (lv_at hl 1 rfl) ?_
          refine zz_get hC hK hZ 0 30 (Nat.le_of_ble_eq_true rfl) (mc_0 q _ _) rfl hin_Model (by decide) wd_537 rfl rfl d_Model_run_36 ?_
          refine lv_iload_n hx_ hb_ d_Model_run_39 rfl (lv_at hl 2 rfl) ?_
          refine zz_iald hC hK hZ 24 0 i (Nat.le_of_ble_eq_true rfl) (mc_24 q _ _) rfl rfl (by omega) (by decide) rfl d_Model_run_40 ?_
          refine zz_topi (y := vw_s (cs.2.2.2.2.2.2.1 i)) (hCi.2.2 i (by omega)).2.2.2.2.2.1 ?_
          refine zz_rige (tgt := 48) hC d_Model_run_41 (by decide) (fun h41 => ?_) (fun h41 => ?_)
          · have hb := vw_sge.1 h41
            have hbi := (hcd i (by omega)).2.2.2 hb
            refine lv_aload_n hx_ hb_ d_Model_run_48 rfl (lv_at hl 1 rfl) ?_
            refine zz_get hC hK hZ 0 33 (Nat.le_of_ble_eq_true rfl) (mc_0 q _ _) rfl hin_Model (by decide) wd_540 rfl rfl d_Model_run_49 ?_
            refine lv_aload_n hx_ hb_ d_Model_run_52 rfl (lv_at hl 1 rfl) ?_
            refine zz_get hC hK hZ 0 30 (Nat.le_of_ble_eq_true rfl) (mc_0 q _ _) rfl hin_Model (by decide) wd_537 rfl rfl d_Model_run_53 ?_
            refine lv_iload_n hx_ hb_ d_Model_run_56 rfl (lv_at hl 2 rfl) ?_
            refine zz_iald hC hK hZ 24 0 i (Nat.le_of_ble_eq_true rfl) (mc_24 q _ _) rfl rfl (by omega) (by decide) rfl d_Model_run_57 ?_
            refine zz_topi (y := nI (cs.2.2.2.2.2.2.1 i)) (by rw [(hCi.2.2 i (by omega)).2.2.2.2.2.1, vw_s_in hb]) ?_
            refine zz_iald hC hK hZ 27 0 (cs.2.2.2.2.2.2.1 i) (Nat.le_of_ble_eq_true rfl) (mc_27 q _ _) rfl rfl (by omega) (by decide) rfl d_Model_run_58 ?_
            refine zz_topi (y := ex_src res (cs.2.2.2.2.2.2.1 i)) (by rw [ex_src, if_pos hb]; exact hres _ (by omega)) ?_
            refine lv_istore_n (i := 3) (lv' := [(3, .int (ex_src res (cs.2.2.2.2.2.2.1 i))), (2, .int (ex_src res (cs.2.2.2.2.2.1 i))), (0, .ref (zz_ad (mg_G q) 0)), (1, .int (nI i))]) hx_ hb_ d_Model_run_59 rfl hl (by decide) rfl (fun ls hl => ?_)
            refine lv_aload_n hx_ hb_ d_Model_run_60 rfl (lv_at hl 2 rfl) ?_
            refine zz_get hC hK hZ 0 33 (Nat.le_of_ble_eq_true rfl) (mc_0 q _ _) rfl hin_Model (by decide) wd_540 rfl rfl d_Model_run_61 ?_
            refine lv_iload_n hx_ hb_ d_Model_run_64 rfl (lv_at hl 3 rfl) ?_
            refine lv_aload_n hx_ hb_ d_Model_run_65 rfl (lv_at hl 2 rfl) ?_
            refine lv_aload_n hx_ hb_ d_Model_run_66 rfl (lv_at hl 2 rfl) ?_
            refine zz_get hC hK hZ 0 27 (Nat.le_of_ble_eq_true rfl) (mc_0 q _ _) rfl hin_Model (by decide) wd_534 rfl rfl d_Model_run_67 ?_
            refine lv_iload_n hx_ hb_ d_Model_run_70 rfl (lv_at hl 3 rfl) ?_
            refine zz_iald hC hK hZ 21 0 i (Nat.le_of_ble_eq_true rfl) (mc_21 q _ _) rfl rfl (by omega) (by decide) rfl d_Model_run_71 ?_
            refine zz_topi (y := nI (cs.2.2.2.1 i)) (hCi.2.2 i (by omega)).2.2.1 ?_
            refine lv_aload_n hx_ hb_ d_Model_run_72 rfl (lv_at hl 2 rfl) ?_
            refine zz_get hC hK hZ 0 28 (Nat.le_of_ble_eq_true rfl) (mc_0 q _ _) rfl hin_Model (by decide) wd_535 rfl rfl d_Model_run_73 ?_
            refine lv_iload_n hx_ hb_ d_Model_run_76 rfl (lv_at hl 3 rfl) ?_
            refine zz_iald hC hK hZ 22 0 i (Nat.le_of_ble_eq_true rfl) (mc_22 q _ _) rfl rfl (by omega) (by decide) rfl d_Model_run_77 ?_
            refine zz_topi (y := cs.2.2.2.2.1 i) (hCi.2.2 i (by omega)).2.2.2.1 ?_
            refine lv_iload_n hx_ hb_ d_Model_run_78 rfl (lv_at hl 1 rfl) ?_
            refine lv_iload_n hx_ hb_ d_Model_run_79 rfl (lv_at hl 0 rfl) ?_
            refine zz_ci (zz_rV (As := [.int (nI (cs.2.2.2.1 i)), .int (cs.2.2.2.2.1 i), .int (ex_src res (cs.2.2.2.2.2.1 i)), .int (ex_src res (cs.2.2.2.2.2.2.1 i))]) (rest := [.int (nI i), .ref (zz_ad (mg_G q) 27)]) hC hK hZ 0 (c_Model_calculate l q Si (cs.2.2.2.1 i) (cs.2.2.2.2.1 i) (ex_src res (cs.2.2.2.2.2.1 i)) (ex_src res (cs.2.2.2.2.2.2.1 i)) vr (fun k hk => by rw [(ho1 31 (by omega)).1]; exact hvr k hk) (hnum i (by omega)).1 (hnum i (by omega)).2) k_Model_calculate (Nat.le_of_ble_eq_true rfl) (mc_0 q _ _) rfl wd_749 ⟨rfl, rfl, by decide, by decide⟩ rfl hl.1 rfl (Nat.le_of_ble_eq_true rfl) d_Model_run_80 ⟨Nat.zero_le _, Nat.zero_le _⟩) hZ (fun r80 S80 H locs hp80 hZ => ?_)
            obtain ⟨rfl, rfl⟩ := hp80
            refine zz_iast hC hK hZ 27 0 i (Nat.le_of_ble_eq_true rfl) (fun _ => mc_27 q _ _) rfl rfl (by omega) (by decide) d_Model_run_83 (fun H locs hZ => ?_)
            refine lv_iinc (k := 3) (v := nI (i + 1)) (lv' := [(1, .int (nI (i + 1))), (3, .int (ex_src res (cs.2.2.2.2.2.2.1 i))), (2, .int (ex_src res (cs.2.2.2.2.2.1 i))), (0, .ref (zz_ad (mg_G q) 0))]) hx_ hb_ d_Model_run_84 hl rfl (nI_add _ 1) (by decide) rfl (fun ls hl => ?_)
            refine lv_goto (tgt := 2) hx_ hb_ d_Model_run_87 (by decide) ?_
            exact ih_ _ (by omega) (i + 1) (upd res i (ex_cal vr (cs.2.2.2.1 i) (cs.2.2.2.2.1 i) (ex_src res (cs.2.2.2.2.2.1 i)) (ex_src res (cs.2.2.2.2.2.2.1 i)))) (zz_u Si 27 i (ex_cal vr (cs.2.2.2.1 i) (cs.2.2.2.2.1 i) (ex_src res (cs.2.2.2.2.2.1 i)) (ex_src res (cs.2.2.2.2.2.2.1 i))))  _ _ _ (by omega) (zz_off_tr ho1 (fun d hd => ⟨zz_u1 Si 27 _ _ d hd, rfl⟩)) (fun j hj => by
              rw [zz_u1s]
              by_cases e : j = i
              · rw [e, pk_us, pk_us]
              · rw [pk_un e, pk_un e]
                exact hres j (by omega)) (mr_ex (fun j hj => ⟨fun h => ((hcd j (by omega)).2.2.1 h).1, fun h => ((hcd j (by omega)).2.2.2 h).1⟩) hex rfl) hZ (lv_sub hl [3, 0] rfl) rfl
          · have hb : ¬ cs.2.2.2.2.2.2.1 i < 1000 := fun h => absurd (vw_sge.2 h) (by omega)
            refine lv_iconst (v := nI 0) hx_ hb_ d_Model_run_44 (by decide) ?_
            refine zz_topi (y := ex_src res (cs.2.2.2.2.2.2.1 i)) (by rw [ex_src, if_neg hb]; rfl) ?_
            refine lv_goto (tgt := 59) hx_ hb_ d_Model_run_45 (by decide) ?_
            refine lv_istore_n (i := 3) (lv' := [(3, .int (ex_src res (cs.2.2.2.2.2.2.1 i))), (2, .int (ex_src res (cs.2.2.2.2.2.1 i))), (0, .ref (zz_ad (mg_G q) 0)), (1, .int (nI i))]) hx_ hb_ d_Model_run_59 rfl hl (by decide) rfl (fun ls hl => ?_)
            refine lv_aload_n hx_ hb_ d_Model_run_60 rfl (lv_at hl 2 rfl) ?_
            refine zz_get hC hK hZ 0 33 (Nat.le_of_ble_eq_true rfl) (mc_0 q _ _) rfl hin_Model (by decide) wd_540 rfl rfl d_Model_run_61 ?_
            refine lv_iload_n hx_ hb_ d_Model_run_64 rfl (lv_at hl 3 rfl) ?_
            refine lv_aload_n hx_ hb_ d_Model_run_65 rfl (lv_at hl 2 rfl) ?_
            refine lv_aload_n hx_ hb_ d_Model_run_66 rfl (lv_at hl 2 rfl) ?_
            refine zz_get hC hK hZ 0 27 (Nat.le_of_ble_eq_true rfl) (mc_0 q _ _) rfl hin_Model (by decide) wd_534 rfl rfl d_Model_run_67 ?_
            refine lv_iload_n hx_ hb_ d_Model_run_70 rfl (lv_at hl 3 rfl) ?_
            refine zz_iald hC hK hZ 21 0 i (Nat.le_of_ble_eq_true rfl) (mc_21 q _ _) rfl rfl (by omega) (by decide) rfl d_Model_run_71 ?_
            refine zz_topi (y := nI (cs.2.2.2.1 i)) (hCi.2.2 i (by omega)).2.2.1 ?_
            refine lv_aload_n hx_ hb_ d_Model_run_72 rfl (lv_at hl 2 rfl) ?_
            refine zz_get hC hK hZ 0 28 (Nat.le_of_ble_eq_true rfl) (mc_0 q _ _) rfl hin_Model (by decide) wd_535 rfl rfl d_Model_run_73 ?_
            refine lv_iload_n hx_ hb_ d_Model_run_76 rfl (lv_at hl 3 rfl) ?_
            refine zz_iald hC hK hZ 22 0 i (Nat.le_of_ble_eq_true rfl) (mc_22 q _ _) rfl rfl (by omega) (by decide) rfl d_Model_run_77 ?_
            refine zz_topi (y := cs.2.2.2.2.1 i) (hCi.2.2 i (by omega)).2.2.2.1 ?_
            refine lv_iload_n hx_ hb_ d_Model_run_78 rfl (lv_at hl 1 rfl) ?_
            refine lv_iload_n hx_ hb_ d_Model_run_79 rfl (lv_at hl 0 rfl) ?_
            refine zz_ci (zz_rV (As := [.int (nI (cs.2.2.2.1 i)), .int (cs.2.2.2.2.1 i), .int (ex_src res (cs.2.2.2.2.2.1 i)), .int (ex_src res (cs.2.2.2.2.2.2.1 i))]) (rest := [.int (nI i), .ref (zz_ad (mg_G q) 27)]) hC hK hZ 0 (c_Model_calculate l q Si (cs.2.2.2.1 i) (cs.2.2.2.2.1 i) (ex_src res (cs.2.2.2.2.2.1 i)) (ex_src res (cs.2.2.2.2.2.2.1 i)) vr (fun k hk => by rw [(ho1 31 (by omega)).1]; exact hvr k hk) (hnum i (by omega)).1 (hnum i (by omega)).2) k_Model_calculate (Nat.le_of_ble_eq_true rfl) (mc_0 q _ _) rfl wd_749 ⟨rfl, rfl, by decide, by decide⟩ rfl hl.1 rfl (Nat.le_of_ble_eq_true rfl) d_Model_run_80 ⟨Nat.zero_le _, Nat.zero_le _⟩) hZ (fun r80 S80 H locs hp80 hZ => ?_)
            obtain ⟨rfl, rfl⟩ := hp80
            refine zz_iast hC hK hZ 27 0 i (Nat.le_of_ble_eq_true rfl) (fun _ => mc_27 q _ _) rfl rfl (by omega) (by decide) d_Model_run_83 (fun H locs hZ => ?_)
            refine lv_iinc (k := 3) (v := nI (i + 1)) (lv' := [(1, .int (nI (i + 1))), (3, .int (ex_src res (cs.2.2.2.2.2.2.1 i))), (2, .int (ex_src res (cs.2.2.2.2.2.1 i))), (0, .ref (zz_ad (mg_G q) 0))]) hx_ hb_ d_Model_run_84 hl rfl (nI_add _ 1) (by decide) rfl (fun ls hl => ?_)
            refine lv_goto (tgt := 2) hx_ hb_ d_Model_run_87 (by decide) ?_
            exact ih_ _ (by omega) (i + 1) (upd res i (ex_cal vr (cs.2.2.2.1 i) (cs.2.2.2.2.1 i) (ex_src res (cs.2.2.2.2.2.1 i)) (ex_src res (cs.2.2.2.2.2.2.1 i)))) (zz_u Si 27 i (ex_cal vr (cs.2.2.2.1 i) (cs.2.2.2.2.1 i) (ex_src res (cs.2.2.2.2.2.1 i)) (ex_src res (cs.2.2.2.2.2.2.1 i))))  _ _ _ (by omega) (zz_off_tr ho1 (fun d hd => ⟨zz_u1 Si 27 _ _ d hd, rfl⟩)) (fun j hj => by
              rw [zz_u1s]
              by_cases e : j = i
              · rw [e, pk_us, pk_us]
              · rw [pk_un e, pk_un e]
                exact hres j (by omega)) (mr_ex (fun j hj => ⟨fun h => ((hcd j (by omega)).2.2.1 h).1, fun h => ((hcd j (by omega)).2.2.2 h).1⟩) hex rfl) hZ (lv_sub hl [3, 0] rfl) rfl
        · have ha : ¬ cs.2.2.2.2.2.1 i < 1000 := fun h => absurd (vw_sge.2 h) (by omega)
          refine lv_iconst (v := nI 0) hx_ hb_ d_Model_run_19 (by decide) ?_
          refine zz_topi (y := ex_src res (cs.2.2.2.2.2.1 i)) (by rw [ex_src, if_neg ha]; rfl) ?_
          refine lv_goto (tgt := 34) hx_ hb_ d_Model_run_20 (by decide) ?_
          refine lv_istore_n (i := 2) (lv' := [(2, .int (ex_src res (cs.2.2.2.2.2.1 i))), (0, .ref (zz_ad (mg_G q) 0)), (1, .int (nI i))]) hx_ hb_ d_Model_run_34 rfl hl (by decide) rfl (fun ls hl => ?_)
          refine lv_aload_n hx_ hb_ d_Model_run_35 rfl (lv_at hl 1 rfl) ?_
          refine zz_get hC hK hZ 0 30 (Nat.le_of_ble_eq_true rfl) (mc_0 q _ _) rfl hin_Model (by decide) wd_537 rfl rfl d_Model_run_36 ?_
          refine lv_iload_n hx_ hb_ d_Model_run_39 rfl (lv_at hl 2 rfl) ?_
          refine zz_iald hC hK hZ 24 0 i (Nat.le_of_ble_eq_true rfl) (mc_24 q _ _) rfl rfl (by omega) (by decide) rfl d_Model_run_40 ?_
          refine zz_topi (y := vw_s (cs.2.2.2.2.2.2.1 i)) (hCi.2.2 i (by omega)).2.2.2.2.2.1 ?_
          refine zz_rige (tgt := 48) hC d_Model_run_41 (by decide) (fun h41 => ?_) (fun h41 => ?_)
          · have hb := vw_sge.1 h41
            have hbi := (hcd i (by omega)).2.2.2 hb
            refine lv_aload_n hx_ hb_ d_Model_run_48 rfl (lv_at hl 1 rfl) ?_
            refine zz_get hC hK hZ 0 33 (Nat.le_of_ble_eq_true rfl) (mc_0 q _ _) rfl hin_Model (by decide) wd_540 rfl rfl d_Model_run_49 ?_
            refine lv_aload_n hx_ hb_ d_Model_run_52 rfl (lv_at hl 1 rfl) ?_
            refine zz_get hC hK hZ 0 30 (Nat.le_of_ble_eq_true rfl) (mc_0 q _ _) rfl hin_Model (by decide) wd_537 rfl rfl d_Model_run_53 ?_
            refine lv_iload_n hx_ hb_ d_Model_run_56 rfl (lv_at hl 2 rfl) ?_
            refine zz_iald hC hK hZ 24 0 i (Nat.le_of_ble_eq_true rfl) (mc_24 q _ _) rfl rfl (by omega) (by decide) rfl d_Model_run_57 ?_
            refine zz_topi (y := nI (cs.2.2.2.2.2.2.1 i)) (by rw [(hCi.2.2 i (by omega)).2.2.2.2.2.1, vw_s_in hb]) ?_
            refine zz_iald hC hK hZ 27 0 (cs.2.2.2.2.2.2.1 i) (Nat.le_of_ble_eq_true rfl) (mc_27 q _ _) rfl rfl (by omega) (by decide) rfl d_Model_run_58 ?_
            refine zz_topi (y := ex_src res (cs.2.2.2.2.2.2.1 i)) (by rw [ex_src, if_pos hb]; exact hres _ (by omega)) ?_
            refine lv_istore_n (i := 3) (lv' := [(3, .int (ex_src res (cs.2.2.2.2.2.2.1 i))), (2, .int (ex_src res (cs.2.2.2.2.2.1 i))), (0, .ref (zz_ad (mg_G q) 0)), (1, .int (nI i))]) hx_ hb_ d_Model_run_59 rfl hl (by decide) rfl (fun ls hl => ?_)
            refine lv_aload_n hx_ hb_ d_Model_run_60 rfl (lv_at hl 2 rfl) ?_
            refine zz_get hC hK hZ 0 33 (Nat.le_of_ble_eq_true rfl) (mc_0 q _ _) rfl hin_Model (by decide) wd_540 rfl rfl d_Model_run_61 ?_
            refine lv_iload_n hx_ hb_ d_Model_run_64 rfl (lv_at hl 3 rfl) ?_
            refine lv_aload_n hx_ hb_ d_Model_run_65 rfl (lv_at hl 2 rfl) ?_
            refine lv_aload_n hx_ hb_ d_Model_run_66 rfl (lv_at hl 2 rfl) ?_
            refine zz_get hC hK hZ 0 27 (Nat.le_of_ble_eq_true rfl) (mc_0 q _ _) rfl hin_Model (by decide) wd_534 rfl rfl d_Model_run_67 ?_
            refine lv_iload_n hx_ hb_ d_Model_run_70 rfl (lv_at hl 3 rfl) ?_
            refine zz_iald hC hK hZ 21 0 i (Nat.le_of_ble_eq_true rfl) (mc_21 q _ _) rfl rfl (by omega) (by decide) rfl d_Model_run_71 ?_
            refine zz_topi (y := nI (cs.2.2.2.1 i)) (hCi.2.2 i (by omega)).2.2.1 ?_
            refine lv_aload_n hx_ hb_ d_Model_run_72 rfl (lv_at hl 2 rfl) ?_
            refine zz_get hC hK hZ 0 28 (Nat.le_of_ble_eq_true rfl) (mc_0 q _ _) rfl hin_Model (by decide) wd_535 rfl rfl d_Model_run_73 ?_
            refine lv_iload_n hx_ hb_ d_Model_run_76 rfl (lv_at hl 3 rfl) ?_
            refine zz_iald hC hK hZ 22 0 i (Nat.le_of_ble_eq_true rfl) (mc_22 q _ _) rfl rfl (by omega) (by decide) rfl d_Model_run_77 ?_
            refine zz_topi (y := cs.2.2.2.2.1 i) (hCi.2.2 i (by omega)).2.2.2.1 ?_
            refine lv_iload_n hx_ hb_ d_Model_run_78 rfl (lv_at hl 1 rfl) ?_
            refine lv_iload_n hx_ hb_ d_Model_run_79 rfl (lv_at hl 0 rfl) ?_
            refine zz_ci (zz_rV (As := [.int (nI (cs.2.2.2.1 i)), .int (cs.2.2.2.2.1 i), .int (ex_src res (cs.2.2.2.2.2.1 i)), .int (ex_src res (cs.2.2.2.2.2.2.1 i))]) (rest := [.int (nI i), .ref (zz_ad (mg_G q) 27)]) hC hK hZ 0 (c_Model_calculate l q Si (cs.2.2.2.1 i) (cs.2.2.2.2.1 i) (ex_src res (cs.2.2.2.2.2.1 i)) (ex_src res (cs.2.2.2.2.2.2.1 i)) vr (fun k hk => by rw [(ho1 31 (by omega)).1]; exact hvr k hk) (hnum i (by omega)).1 (hnum i (by omega)).2) k_Model_calculate (Nat.le_of_ble_eq_true rfl) (mc_0 q _ _) rfl wd_749 ⟨rfl, rfl, by decide, by decide⟩ rfl hl.1 rfl (Nat.le_of_ble_eq_true rfl) d_Model_run_80 ⟨Nat.zero_le _, Nat.zero_le _⟩) hZ (fun r80 S80 H locs hp80 hZ => ?_)
            obtain ⟨rfl, rfl⟩ := hp80
            refine zz_iast hC hK hZ 27 0 i (Nat.le_of_ble_eq_true rfl) (fun _ => mc_27 q _ _) rfl rfl (by omega) (by decide) d_Model_run_83 (fun H locs hZ => ?_)
            refine lv_iinc (k := 3) (v := nI (i + 1)) (lv' := [(1, .int (nI (i + 1))), (3, .int (ex_src res (cs.2.2.2.2.2.2.1 i))), (2, .int (ex_src res (cs.2.2.2.2.2.1 i))), (0, .ref (zz_ad (mg_G q) 0))]) hx_ hb_ d_Model_run_84 hl rfl (nI_add _ 1) (by decide) rfl (fun ls hl => ?_)
            refine lv_goto (tgt := 2) hx_ hb_ d_Model_run_87 (by decide) ?_
            exact ih_ _ (by omega) (i + 1) (upd res i (ex_cal vr (cs.2.2.2.1 i) (cs.2.2.2.2.1 i) (ex_src res (cs.2.2.2.2.2.1 i)) (ex_src res (cs.2.2.2.2.2.2.1 i)))) (zz_u Si 27 i (ex_cal vr (cs.2.2.2.1 i) (cs.2.2.2.2.1 i) (ex_src res (cs.2.2.2.2.2.1 i)) (ex_src res (cs.2.2.2.2.2.2.1 i))))  _ _ _ (by omega) (zz_off_tr ho1 (fun d hd => ⟨zz_u1 Si 27 _ _ d hd, rfl⟩)) (fun j hj => by
              rw [zz_u1s]
              by_cases e : j = i
              · rw [e, pk_us, pk_us]
              · rw [pk_un e, pk_un e]
                exact hres j (by omega)) (mr_ex (fun j hj => ⟨fun h => ((hcd j (by omega)).2.2.1 h).1, fun h => ((hcd j (by omega)).2.2.2 h).1⟩) hex rfl) hZ (lv_sub hl [3, 0] rfl) rfl
          · have hb : ¬ cs.2.2.2.2.2.2.1 i < 1000 := fun h => absurd (vw_sge.2 h) (by omega)
            refine lv_iconst (v := nI 0) hx_ hb_ d_Model_run_44 (by decide) ?_
            refine zz_topi (y := ex_src res (cs.2.2.2.2.2.2.1 i)) (by rw [ex_src, if_neg hb]; rfl) ?_
            refine lv_goto (tgt := 59) hx_ hb_ d_Model_run_45 (by decide) ?_
            refine lv_istore_n (i := 3) (lv' := [(3, .int (ex_src res (cs.2.2.2.2.2.2.1 i))), (2, .int (ex_src res (cs.2.2.2.2.2.1 i))), (0, .ref (zz_ad (mg_G q) 0)), (1, .int (nI i))]) hx_ hb_ d_Model_run_59 rfl hl (by decide) rfl (fun ls hl => ?_)
            refine lv_aload_n hx_ hb_ d_Model_run_60 rfl (lv_at hl 2 rfl) ?_
            refine zz_get hC hK hZ 0 33 (Nat.le_of_ble_eq_true rfl) (mc_0 q _ _) rfl hin_Model (by decide) wd_540 rfl rfl d_Model_run_61 ?_
            refine lv_iload_n hx_ hb_ d_Model_run_64 rfl (lv_at hl 3 rfl) ?_
            refine lv_aload_n hx_ hb_ d_Model_run_65 rfl (lv_at hl 2 rfl) ?_
            refine lv_aload_n hx_ hb_ d_Model_run_66 rfl (lv_at hl 2 rfl) ?_
            refine zz_get hC hK hZ 0 27 (Nat.le_of_ble_eq_true rfl) (mc_0 q _ _) rfl hin_Model (by decide) wd_534 rfl rfl d_Model_run_67 ?_
            refine lv_iload_n hx_ hb_ d_Model_run_70 rfl (lv_at hl 3 rfl) ?_
            refine zz_iald hC hK hZ 21 0 i (Nat.le_of_ble_eq_true rfl) (mc_21 q _ _) rfl rfl (by omega) (by decide) rfl d_Model_run_71 ?_
            refine zz_topi (y := nI (cs.2.2.2.1 i)) (hCi.2.2 i (by omega)).2.2.1 ?_
            refine lv_aload_n hx_ hb_ d_Model_run_72 rfl (lv_at hl 2 rfl) ?_
            refine zz_get hC hK hZ 0 28 (Nat.le_of_ble_eq_true rfl) (mc_0 q _ _) rfl hin_Model (by decide) wd_535 rfl rfl d_Model_run_73 ?_
            refine lv_iload_n hx_ hb_ d_Model_run_76 rfl (lv_at hl 3 rfl) ?_
            refine zz_iald hC hK hZ 22 0 i (Nat.le_of_ble_eq_true rfl) (mc_22 q _ _) rfl rfl (by omega) (by decide) rfl d_Model_run_77 ?_
            refine zz_topi (y := cs.2.2.2.2.1 i) (hCi.2.2 i (by omega)).2.2.2.1 ?_
            refine lv_iload_n hx_ hb_ d_Model_run_78 rfl (lv_at hl 1 rfl) ?_
            refine lv_iload_n hx_ hb_ d_Model_run_79 rfl (lv_at hl 0 rfl) ?_
            refine zz_ci (zz_rV (As := [.int (nI (cs.2.2.2.1 i)), .int (cs.2.2.2.2.1 i), .int (ex_src res (cs.2.2.2.2.2.1 i)), .int (ex_src res (cs.2.2.2.2.2.2.1 i))]) (rest := [.int (nI i), .ref (zz_ad (mg_G q) 27)]) hC hK hZ 0 (c_Model_calculate l q Si (cs.2.2.2.1 i) (cs.2.2.2.2.1 i) (ex_src res (cs.2.2.2.2.2.1 i)) (ex_src res (cs.2.2.2.2.2.2.1 i)) vr (fun k hk => by rw [(ho1 31 (by omega)).1]; exact hvr k hk) (hnum i (by omega)).1 (hnum i (by omega)).2) k_Model_calculate (Nat.le_of_ble_eq_true rfl) (mc_0 q _ _) rfl wd_749 ⟨rfl, rfl, by decide, by decide⟩ rfl hl.1 rfl (Nat.le_of_ble_eq_true rfl) d_Model_run_80 ⟨Nat.zero_le _, Nat.zero_le _⟩) hZ (fun r80 S80 H locs hp80 hZ => ?_)
            obtain ⟨rfl, rfl⟩ := hp80
            refine zz_iast hC hK hZ 27 0 i (Nat.le_of_ble_eq_true rfl) (fun _ => mc_27 q _ _) rfl rfl (by omega) (by decide) d_Model_run_83 (fun H locs hZ => ?_)
            refine lv_iinc (k := 3) (v := nI (i + 1)) (lv' := [(1, .int (nI (i + 1))), (3, .int (ex_src res (cs.2.2.2.2.2.2.1 i))), (2, .int (ex_src res (cs.2.2.2.2.2.1 i))), (0, .ref (zz_ad (mg_G q) 0))]) hx_ hb_ d_Model_run_84 hl rfl (nI_add _ 1) (by decide) rfl (fun ls hl => ?_)
            refine lv_goto (tgt := 2) hx_ hb_ d_Model_run_87 (by decide) ?_
            exact ih_ _ (by omega) (i + 1) (upd res i (ex_cal vr (cs.2.2.2.1 i) (cs.2.2.2.2.1 i) (ex_src res (cs.2.2.2.2.2.1 i)) (ex_src res (cs.2.2.2.2.2.2.1 i)))) (zz_u Si 27 i (ex_cal vr (cs.2.2.2.1 i) (cs.2.2.2.2.1 i) (ex_src res (cs.2.2.2.2.2.1 i)) (ex_src res (cs.2.2.2.2.2.2.1 i))))  _ _ _ (by omega) (zz_off_tr ho1 (fun d hd => ⟨zz_u1 Si 27 _ _ d hd, rfl⟩)) (fun j hj => by
              rw [zz_u1s]
              by_cases e : j = i
              · rw [e, pk_us, pk_us]
              · rw [pk_un e, pk_un e]
                exact hres j (by omega)) (mr_ex (fun j hj => ⟨fun h => ((hcd j (by omega)).2.2.1 h).1, fun h => ((hcd j (by omega)).2.2.2 h).1⟩) hex rfl) hZ (lv_sub hl [3, 0] rfl) rfl
  have L2 : ∀ (i : Nat) (res : Nat → Int32) (Si : zz_S) (H : Heap) (locs : List Loc) (ls : Array Slot) (hi : i ≤ cs.1) (ho1 : zz_off (fun c => c = 27) S Si) (hres : ∀ j, j < i → Si.1 27 j = res j) (hex : ∀ j, j < i → res j = ex_cal vr (cs.2.2.2.1 j) (cs.2.2.2.2.1 j) (ex_src res (cs.2.2.2.2.2.1 j)) (ex_src res (cs.2.2.2.2.2.2.1 j))) (hZ : zz_Z (mg_G q) Si s_.heap H locs) (hl : lv_has ls 4 [(0, .ref (zz_ad (mg_G q) 0)), (1, .int (nI i))]), W p_ l e_ rm_Model_run s_ m_ ([.ref (zz_ad (mg_G q) 0)] : List Value).toArray bl_ mt_ c_ H locs 0 0 (MQ bl_ (va_Qi (fun ans S1 => zz_off (fun c => c = 27) S S1 ∧ ((cs.1 = 0 ∧ ans = nI 0) ∨ (cs.1 ≠ 0 ∧ ∃ res, ex_ok vr cs res ∧ ans = res (cs.1 - 1)))) (zz_P (mg_G q)) (zz_A (mg_G q))) ([.ref (zz_ad (mg_G q) 0)] : List Value).toArray s_ 0 0 (zz_A (mg_G q))) (F0 m_ 2 ls []) := fun i res Si H locs ls hi ho1 hres hex hZ hl => L2_ _ i res Si H locs ls hi ho1 hres hex hZ hl rfl
  refine lv_iconst (v := nI 0) hx_ hb_ d_Model_run_0 (by decide) ?_
  refine lv_istore_n (i := 1) (lv' := [(1, .int (nI 0)), (0, .ref (zz_ad (mg_G q) 0))]) hx_ hb_ d_Model_run_1 rfl hl (by decide) rfl (fun ls hl => ?_)
  exact L2 0 (fun _ => 0) S  _ _ _ (Nat.zero_le _) zz_off_rf (fun j hj => absurd hj (Nat.not_lt_zero j)) (fun j hj => absurd hj (Nat.not_lt_zero j)) hZ (lv_sub hl [1, 0] rfl)
set_option maxHeartbeats 4000000 in
set_option maxRecDepth 100000 in
theorem c_Model_value (l : Launch) (q : xg_T) (S : zz_S) (op : Nat → Nat) (nu : Nat → Int32) (sz ht : Nat → Nat) (m t : Nat) (ps : Nat → Nat) (hT : mt_ok S op nu sz ht m t ps) (vr : Nat → Int32) (hvr : ∀ k, k < 8 → S.1 31 k = vr k) (hnu : xn_ok op nu m) : Met l y_Model_value (Cond.code y_Model_value b_Model_value 4 (some .int) :: zz_tbl) rm_Model_value (zz_Pc [.ref (zz_ad (mg_G q) 0)] (mg_G q) S) (va_Qi (fun ans S1 => (t = 0 ∧ ans = nI 0 ∧ S = S1) ∨ (t ≠ 0 ∧ zz_off (fun c => c = 32) S S1 ∧ ∃ vl, xe_ok vr op nu sz vl (m - sz (m - 1)) m ∧ ans = vl (m - 1))) (zz_P (mg_G q)) (zz_A (mg_G q))) 0 0 (zz_A (mg_G q)) := by
  refine zz_met (by decide) (Nat.le_of_ble_eq_true rfl) ?_
  intro p_ e_ s_ m_ bl_ mt_ c_ ls hC hK hZ hl
  have hC : zz_C p_ s_ m_ _ mt_ c_ b_Model_value 4 (some .int) "TreeCoverForgeModel" := hC
  have hx_ := hC.1
  have hb_ := hC.2.1
  have hl : lv_has ls 4 [(0, .ref (zz_ad (mg_G q) 0))] := hl
  have hm := hT.2.2.1
  have htm := hT.2.2.2.1
  have htr := hT.2.2.2.2.2.1
  have hts := hT.2.2.2.2.2.2.2.1
  have hps := hT.2.2.2.2.2.2.2.2
  have h2ts := ts_two hts
  have L61 : ∀ (i : Nat) (fr : Int32) (vl : Nat → Int32) (Si : zz_S) (hk114 : ∀ (Sj : zz_S) (H : Heap) (locs : List Loc) (ls : Array Slot) (hSj : Sj = zz_u Si 32 i (ex_cal vr (op i) (nu i) (if 0 < zz_kd (op i) then vl (tr_fa op sz i) else 0) (if zz_kd (op i) = 2 then vl (i - 1) else 0))) (hZ : zz_Z (mg_G q) Sj s_.heap H locs) (hl : lv_has ls 4 [(0, .ref (zz_ad (mg_G q) 0)), (1, .int (nI i))]), W p_ l e_ rm_Model_value s_ m_ ([.ref (zz_ad (mg_G q) 0)] : List Value).toArray bl_ mt_ c_ H locs 0 0 (MQ bl_ (va_Qi (fun ans S1 => (t = 0 ∧ ans = nI 0 ∧ S = S1) ∨ (t ≠ 0 ∧ zz_off (fun c => c = 32) S S1 ∧ ∃ vl, xe_ok vr op nu sz vl (m - sz (m - 1)) m ∧ ans = vl (m - 1))) (zz_P (mg_G q)) (zz_A (mg_G q))) ([.ref (zz_ad (mg_G q) 0)] : List Value).toArray s_ 0 0 (zz_A (mg_G q))) (F0 m_ 114 ls [])) (H : Heap) (locs : List Loc) (ls : Array Slot) (h26 : i < m) (ht0 : t ≠ 0) (hi1 : (m - sz (m - 1)) ≤ i) (ho1 : zz_off (fun c => c = 32) S Si) (hres : ∀ j, (m - sz (m - 1)) ≤ j → j < i → Si.1 32 j = vl j) (hfr : 0 < zz_kd (op i) → fr = nI (tr_fa op sz i)) (hZ : zz_Z (mg_G q) Si s_.heap H locs) (hl : lv_has ls 4 [(0, .ref (zz_ad (mg_G q) 0)), (1, .int (nI i)), (2, .int (nI (zz_kd (op i)))), (3, .int fr)]), W p_ l e_ rm_Model_value s_ m_ ([.ref (zz_ad (mg_G q) 0)] : List Value).toArray bl_ mt_ c_ H locs 0 0 (MQ bl_ (va_Qi (fun ans S1 => (t = 0 ∧ ans = nI 0 ∧ S = S1) ∨ (t ≠ 0 ∧ zz_off (fun c => c = 32) S S1 ∧ ∃ vl, xe_ok vr op nu sz vl (m - sz (m - 1)) m ∧ ans = vl (m - 1))) (zz_P (mg_G q)) (zz_A (mg_G q))) ([.ref (zz_ad (mg_G q) 0)] : List Value).toArray s_ 0 0 (zz_A (mg_G q))) (F0 m_ 61 ls []) := by
    intro i fr vl Si hk114 H locs ls h26 ht0 hi1 ho1 hres hfr hZ hl
    have hTi : mt_ok Si op nu sz ht m t ps := mt_keep hT (by rw [(ho1 0 (by omega)).1]) (by rw [(ho1 0 (by omega)).1]) (fun c h1 h2 => (ho1 c (by omega)).1)
    have h2t := h2ts.1 (by omega)
    have hin := (tr_in htr (show 0 < m by omega) (show (m - sz (m - 1)) + sz (m - 1) = m by omega) hi1 h26).2
    have hkd := tr_kd (op i)
    have hop := (htr i h26).1
    refine lv_aload_n hx_ hb_ d_Model_value_61 rfl (lv_at hl 0 rfl) ?_
    refine zz_get hC hK hZ 0 38 (Nat.le_of_ble_eq_true rfl) (mc_0 q _ _) rfl hin_Model (by decide) wd_545 rfl rfl d_Model_value_62 ?_
    refine lv_iload_n hx_ hb_ d_Model_value_65 rfl (lv_at hl 1 rfl) ?_
    refine lv_aload_n hx_ hb_ d_Model_value_66 rfl (lv_at hl 0 rfl) ?_
    refine lv_aload_n hx_ hb_ d_Model_value_67 rfl (lv_at hl 0 rfl) ?_
    refine zz_get hC hK hZ 0 7 (Nat.le_of_ble_eq_true rfl) (mc_0 q _ _) rfl hin_Model (by decide) wd_514 rfl rfl d_Model_value_68 ?_
    refine lv_iload_n hx_ hb_ d_Model_value_71 rfl (lv_at hl 1 rfl) ?_
    refine zz_iald hC hK hZ 6 0 i (Nat.le_of_ble_eq_true rfl) (mc_6 q _ _) rfl rfl (by omega) (by decide) rfl d_Model_value_72 ?_
    refine zz_topi (y := nI (op i)) (hTi.2.2.2.2.1 i h26).1 ?_
    refine lv_aload_n hx_ hb_ d_Model_value_73 rfl (lv_at hl 0 rfl) ?_
    refine zz_get hC hK hZ 0 8 (Nat.le_of_ble_eq_true rfl) (mc_0 q _ _) rfl hin_Model (by decide) wd_515 rfl rfl d_Model_value_74 ?_
    refine lv_iload_n hx_ hb_ d_Model_value_77 rfl (lv_at hl 1 rfl) ?_
    refine zz_iald hC hK hZ 7 0 i (Nat.le_of_ble_eq_true rfl) (mc_7 q _ _) rfl rfl (by omega) (by decide) rfl d_Model_value_78 ?_
    refine zz_topi (y := nu i) (hTi.2.2.2.2.1 i h26).2.1 ?_
    refine lv_iload_n hx_ hb_ d_Model_value_79 rfl (lv_at hl 2 rfl) ?_
    refine zz_ile (tgt := 92) hC d_Model_value_80 (by decide) (by omega) (fun h80 => ?_) (fun h80 => ?_)
    · refine lv_iconst (v := nI 0) hx_ hb_ d_Model_value_92 (by decide) ?_
      refine zz_topi (y := (if 0 < zz_kd (op i) then vl (tr_fa op sz i) else 0)) (by rw [if_neg (by omega)]; rfl) ?_
      refine lv_iload_n hx_ hb_ d_Model_value_93 rfl (lv_at hl 2 rfl) ?_
      refine lv_iconst (v := nI 1) hx_ hb_ d_Model_value_94 (by decide) ?_
      refine zz_jle (tgt := 109) hC d_Model_value_95 (by decide) (by omega) (by omega) (fun h95 => ?_) (fun h95 => ?_)
      · refine lv_iconst (v := nI 0) hx_ hb_ d_Model_value_109 (by decide) ?_
        refine zz_topi (y := (if zz_kd (op i) = 2 then vl (i - 1) else 0)) (by rw [if_neg (by omega)]; rfl) ?_
        refine zz_ci (zz_rV (As := [.int (nI (op i)), .int (nu i), .int ((if 0 < zz_kd (op i) then vl (tr_fa op sz i) else 0)), .int ((if zz_kd (op i) = 2 then vl (i - 1) else 0))]) (rest := [.int (nI i), .ref (zz_ad (mg_G q) 32)]) hC hK hZ 0 (c_Model_calculate l q Si (op i) (nu i) (if 0 < zz_kd (op i) then vl (tr_fa op sz i) else 0) (if zz_kd (op i) = 2 then vl (i - 1) else 0) vr (fun k hk => by rw [(ho1 31 (by omega)).1]; exact hvr k hk) (by omega) (fun h => hnu i h26 h)) k_Model_calculate (Nat.le_of_ble_eq_true rfl) (mc_0 q _ _) rfl wd_749 ⟨rfl, rfl, by decide, by decide⟩ rfl hl.1 rfl (Nat.le_of_ble_eq_true rfl) d_Model_value_110 ⟨Nat.zero_le _, Nat.zero_le _⟩) hZ (fun r110 S110 H locs hp110 hZ => ?_)
        obtain ⟨rfl, rfl⟩ := hp110
        refine zz_iast hC hK hZ 32 0 i (Nat.le_of_ble_eq_true rfl) (fun _ => mc_32 q _ _) rfl rfl (by omega) (by decide) d_Model_value_113 (fun H locs hZ => ?_)
        exact hk114 (zz_u Si 32 i (ex_cal vr (op i) (nu i) (if 0 < zz_kd (op i) then vl (tr_fa op sz i) else 0) (if zz_kd (op i) = 2 then vl (i - 1) else 0)))  _ _ _ rfl hZ (lv_sub hl [0, 1] rfl)
      · have hin2 := hin (by omega)
        refine lv_aload_n hx_ hb_ d_Model_value_98 rfl (lv_at hl 0 rfl) ?_
        refine zz_get hC hK hZ 0 38 (Nat.le_of_ble_eq_true rfl) (mc_0 q _ _) rfl hin_Model (by decide) wd_545 rfl rfl d_Model_value_99 ?_
        refine lv_iload_n hx_ hb_ d_Model_value_102 rfl (lv_at hl 1 rfl) ?_
        refine lv_iconst (v := nI 1) hx_ hb_ d_Model_value_103 (by decide) ?_
        refine lv_isub hx_ hb_ d_Model_value_104 ?_
        refine zz_topi (y := nI (i - 1)) (pk_sub (by omega)) ?_
        refine zz_iald hC hK hZ 32 0 (i - 1) (Nat.le_of_ble_eq_true rfl) (mc_32 q _ _) rfl rfl (by omega) (by decide) rfl d_Model_value_105 ?_
        refine zz_topi (y := (if zz_kd (op i) = 2 then vl (i - 1) else 0)) (by rw [if_pos (by omega)]; exact hres _ (by omega) (by omega)) ?_
        refine lv_goto (tgt := 110) hx_ hb_ d_Model_value_106 (by decide) ?_
        refine zz_ci (zz_rV (As := [.int (nI (op i)), .int (nu i), .int ((if 0 < zz_kd (op i) then vl (tr_fa op sz i) else 0)), .int ((if zz_kd (op i) = 2 then vl (i - 1) else 0))]) (rest := [.int (nI i), .ref (zz_ad (mg_G q) 32)]) hC hK hZ 0 (c_Model_calculate l q Si (op i) (nu i) (if 0 < zz_kd (op i) then vl (tr_fa op sz i) else 0) (if zz_kd (op i) = 2 then vl (i - 1) else 0) vr (fun k hk => by rw [(ho1 31 (by omega)).1]; exact hvr k hk) (by omega) (fun h => hnu i h26 h)) k_Model_calculate (Nat.le_of_ble_eq_true rfl) (mc_0 q _ _) rfl wd_749 ⟨rfl, rfl, by decide, by decide⟩ rfl hl.1 rfl (Nat.le_of_ble_eq_true rfl) d_Model_value_110 ⟨Nat.zero_le _, Nat.zero_le _⟩) hZ (fun r110 S110 H locs hp110 hZ => ?_)
        obtain ⟨rfl, rfl⟩ := hp110
        refine zz_iast hC hK hZ 32 0 i (Nat.le_of_ble_eq_true rfl) (fun _ => mc_32 q _ _) rfl rfl (by omega) (by decide) d_Model_value_113 (fun H locs hZ => ?_)
        exact hk114 (zz_u Si 32 i (ex_cal vr (op i) (nu i) (if 0 < zz_kd (op i) then vl (tr_fa op sz i) else 0) (if zz_kd (op i) = 2 then vl (i - 1) else 0)))  _ _ _ rfl hZ (lv_sub hl [0, 1] rfl)
    · have hin1 := hin (by omega)
      refine lv_aload_n hx_ hb_ d_Model_value_83 rfl (lv_at hl 0 rfl) ?_
      refine zz_get hC hK hZ 0 38 (Nat.le_of_ble_eq_true rfl) (mc_0 q _ _) rfl hin_Model (by decide) wd_545 rfl rfl d_Model_value_84 ?_
      refine lv_iload_n hx_ hb_ d_Model_value_87 rfl (lv_at hl 3 rfl) ?_
      refine zz_topi (y := nI (tr_fa op sz i)) (hfr (by omega)) ?_
      refine zz_iald hC hK hZ 32 0 (tr_fa op sz i) (Nat.le_of_ble_eq_true rfl) (mc_32 q _ _) rfl rfl (by omega) (by decide) rfl d_Model_value_88 ?_
      refine zz_topi (y := (if 0 < zz_kd (op i) then vl (tr_fa op sz i) else 0)) (by rw [if_pos (by omega)]; exact hres _ (by omega) (by omega)) ?_
      refine lv_goto (tgt := 93) hx_ hb_ d_Model_value_89 (by decide) ?_
      refine lv_iload_n hx_ hb_ d_Model_value_93 rfl (lv_at hl 2 rfl) ?_
      refine lv_iconst (v := nI 1) hx_ hb_ d_Model_value_94 (by decide) ?_
      refine zz_jle (tgt := 109) hC d_Model_value_95 (by decide) (by omega) (by omega) (fun h95 => ?_) (fun h95 => ?_)
      · refine lv_iconst (v := nI 0) hx_ hb_ d_Model_value_109 (by decide) ?_
        refine zz_topi (y := (if zz_kd (op i) = 2 then vl (i - 1) else 0)) (by rw [if_neg (by omega)]; rfl) ?_
        refine zz_ci (zz_rV (As := [.int (nI (op i)), .int (nu i), .int ((if 0 < zz_kd (op i) then vl (tr_fa op sz i) else 0)), .int ((if zz_kd (op i) = 2 then vl (i - 1) else 0))]) (rest := [.int (nI i), .ref (zz_ad (mg_G q) 32)]) hC hK hZ 0 (c_Model_calculate l q Si (op i) (nu i) (if 0 < zz_kd (op i) then vl (tr_fa op sz i) else 0) (if zz_kd (op i) = 2 then vl (i - 1) else 0) vr (fun k hk => by rw [(ho1 31 (by omega)).1]; exact hvr k hk) (by omega) (fun h => hnu i h26 h)) k_Model_calculate (Nat.le_of_ble_eq_true rfl) (mc_0 q _ _) rfl wd_749 ⟨rfl, rfl, by decide, by decide⟩ rfl hl.1 rfl (Nat.le_of_ble_eq_true rfl) d_Model_value_110 ⟨Nat.zero_le _, Nat.zero_le _⟩) hZ (fun r110 S110 H locs hp110 hZ => ?_)
        obtain ⟨rfl, rfl⟩ := hp110
        refine zz_iast hC hK hZ 32 0 i (Nat.le_of_ble_eq_true rfl) (fun _ => mc_32 q _ _) rfl rfl (by omega) (by decide) d_Model_value_113 (fun H locs hZ => ?_)
        exact hk114 (zz_u Si 32 i (ex_cal vr (op i) (nu i) (if 0 < zz_kd (op i) then vl (tr_fa op sz i) else 0) (if zz_kd (op i) = 2 then vl (i - 1) else 0)))  _ _ _ rfl hZ (lv_sub hl [0, 1] rfl)
      · have hin2 := hin (by omega)
        refine lv_aload_n hx_ hb_ d_Model_value_98 rfl (lv_at hl 0 rfl) ?_
        refine zz_get hC hK hZ 0 38 (Nat.le_of_ble_eq_true rfl) (mc_0 q _ _) rfl hin_Model (by decide) wd_545 rfl rfl d_Model_value_99 ?_
        refine lv_iload_n hx_ hb_ d_Model_value_102 rfl (lv_at hl 1 rfl) ?_
        refine lv_iconst (v := nI 1) hx_ hb_ d_Model_value_103 (by decide) ?_
        refine lv_isub hx_ hb_ d_Model_value_104 ?_
        refine zz_topi (y := nI (i - 1)) (pk_sub (by omega)) ?_
        refine zz_iald hC hK hZ 32 0 (i - 1) (Nat.le_of_ble_eq_true rfl) (mc_32 q _ _) rfl rfl (by omega) (by decide) rfl d_Model_value_105 ?_
        refine zz_topi (y := (if zz_kd (op i) = 2 then vl (i - 1) else 0)) (by rw [if_pos (by omega)]; exact hres _ (by omega) (by omega)) ?_
        refine lv_goto (tgt := 110) hx_ hb_ d_Model_value_106 (by decide) ?_
        refine zz_ci (zz_rV (As := [.int (nI (op i)), .int (nu i), .int ((if 0 < zz_kd (op i) then vl (tr_fa op sz i) else 0)), .int ((if zz_kd (op i) = 2 then vl (i - 1) else 0))]) (rest := [.int (nI i), .ref (zz_ad (mg_G q) 32)]) hC hK hZ 0 (c_Model_calculate l q Si (op i) (nu i) (if 0 < zz_kd (op i) then vl (tr_fa op sz i) else 0) (if zz_kd (op i) = 2 then vl (i - 1) else 0) vr (fun k hk => by rw [(ho1 31 (by omega)).1]; exact hvr k hk) (by omega) (fun h => hnu i h26 h)) k_Model_calculate (Nat.le_of_ble_eq_true rfl) (mc_0 q _ _) rfl wd_749 ⟨rfl, rfl, by decide, by decide⟩ rfl hl.1 rfl (Nat.le_of_ble_eq_true rfl) d_Model_value_110 ⟨Nat.zero_le _, Nat.zero_le _⟩) hZ (fun r110 S110 H locs hp110 hZ => ?_)
        obtain ⟨rfl, rfl⟩ := hp110
        refine zz_iast hC hK hZ 32 0 i (Nat.le_of_ble_eq_true rfl) (fun _ => mc_32 q _ _) rfl rfl (by omega) (by decide) d_Model_value_113 (fun H locs hZ => ?_)
        exact hk114 (zz_u Si 32 i (ex_cal vr (op i) (nu i) (if 0 < zz_kd (op i) then vl (tr_fa op sz i) else 0) (if zz_kd (op i) = 2 then vl (i - 1) else 0)))  _ _ _ rfl hZ (lv_sub hl [0, 1] rfl)
  have L21_ : ∀ (n_ : Nat) (i : Nat) (vl : Nat → Int32) (Si : zz_S) (H : Heap) (locs : List Loc) (ls : Array Slot) (ht0 : t ≠ 0) (hi1 : (m - sz (m - 1)) ≤ i) (hi2 : i ≤ m) (ho1 : zz_off (fun c => c = 32) S Si) (hres : ∀ j, (m - sz (m - 1)) ≤ j → j < i → Si.1 32 j = vl j) (hex : xe_ok vr op nu sz vl (m - sz (m - 1)) i) (hZ : zz_Z (mg_G q) Si s_.heap H locs) (hl : lv_has ls 4 [(0, .ref (zz_ad (mg_G q) 0)), (1, .int (nI i))]) (hn_ : m - i = n_), W p_ l e_ rm_Model_value s_ m_ ([.ref (zz_ad (mg_G q) 0)] : List Value).toArray bl_ mt_ c_ H locs 0 0 (MQ bl_ (va_Qi (fun ans S1 => (t = 0 ∧ ans = nI 0 ∧ S = S1) ∨ (t ≠ 0 ∧ zz_off (fun c => c = 32) S S1 ∧ ∃ vl, xe_ok vr op nu sz vl (m - sz (m - 1)) m ∧ ans = vl (m - 1))) (zz_P (mg_G q)) (zz_A (mg_G q))) ([.ref (zz_ad (mg_G q) 0)] : List Value).toArray s_ 0 0 (zz_A (mg_G q))) (F0 m_ 21 ls []) := by
    intro n_
    induction n_ using Nat.strongRecOn with
    | ind n_ ih_ =>
      intro i vl Si H locs ls ht0 hi1 hi2 ho1 hres hex hZ hl hn_
      have hTi : mt_ok Si op nu sz ht m t ps := mt_keep hT (by rw [(ho1 0 (by omega)).1]) (by rw [(ho1 0 (by omega)).1]) (fun c h1 h2 => (ho1 c (by omega)).1)
      have h2t := h2ts.1 (by omega)
      refine lv_iload_n hx_ hb_ d_Model_value_21 rfl (lv_at hl 1 rfl) ?_
      refine lv_aload_n hx_ hb_ d_Model_value_22 rfl (lv_at hl 0 rfl) ?_
      refine zz_get hC hK hZ 0 6 (Nat.le_of_ble_eq_true rfl) (mc_0 q _ _) rfl hin_Model (by decide) wd_513 rfl rfl d_Model_value_23 ?_
      refine zz_topi (y := nI m) hTi.1 ?_
      refine zz_jge (tgt := 120) hC d_Model_value_26 (by decide) (by omega) (by omega) (fun h26 => ?_) (fun h26 => ?_)
      · refine lv_aload_n hx_ hb_ d_Model_value_120 rfl (lv_at hl 0 rfl) ?_
        refine zz_get hC hK hZ 0 38 (Nat.le_of_ble_eq_true rfl) (mc_0 q _ _) rfl hin_Model (by decide) wd_545 rfl rfl d_Model_value_121 ?_
        refine lv_aload_n hx_ hb_ d_Model_value_124 rfl (lv_at hl 0 rfl) ?_
        refine zz_get hC hK hZ 0 6 (Nat.le_of_ble_eq_true rfl) (mc_0 q _ _) rfl hin_Model (by decide) wd_513 rfl rfl d_Model_value_125 ?_
        refine zz_topi (y := nI m) hTi.1 ?_
        refine lv_iconst (v := nI 1) hx_ hb_ d_Model_value_128 (by decide) ?_
        refine lv_isub hx_ hb_ d_Model_value_129 ?_
        refine zz_topi (y := nI (m - 1)) (pk_sub (by omega)) ?_
        refine zz_iald hC hK hZ 32 0 (m - 1) (Nat.le_of_ble_eq_true rfl) (mc_32 q _ _) rfl rfl (by omega) (by decide) rfl d_Model_value_130 ?_
        refine zz_topi (y := vl (m - 1)) (hres _ (by omega) (by omega)) ?_
        exact zz_iret hC hK hZ rfl d_Model_value_131 (Or.inr ⟨ht0, ho1, vl, by rw [show i = m by omega] at hex; exact hex, rfl⟩)
      · have hti := htr i h26
        have hkd := tr_kd (op i)
        refine lv_aload_n hx_ hb_ d_Model_value_29 rfl (lv_at hl 0 rfl) ?_
        refine zz_get hC hK hZ 0 7 (Nat.le_of_ble_eq_true rfl) (mc_0 q _ _) rfl hin_Model (by decide) wd_514 rfl rfl d_Model_value_30 ?_
        refine lv_iload_n hx_ hb_ d_Model_value_33 rfl (lv_at hl 1 rfl) ?_
        refine zz_iald hC hK hZ 6 0 i (Nat.le_of_ble_eq_true rfl) (mc_6 q _ _) rfl rfl (by omega) (by decide) rfl d_Model_value_34 ?_
        refine zz_topi (y := nI (op i)) (hTi.2.2.2.2.1 i h26).1 ?_
        refine zz_ci (zz_rS (As := [.int (nI (op i))]) (rest := []) hC hK hZ (c_Model_kids l q Si (op i) (by omega)) k_Model_kids wd_649 ⟨rfl, rfl, by decide, by decide⟩ rfl hl.1 rfl (Nat.le_of_ble_eq_true rfl) d_Model_value_35 ⟨Nat.zero_le _, Nat.zero_le _⟩) hZ (fun r35 S35 H locs hp35 hZ => ?_)
        obtain ⟨rfl, rfl⟩ := hp35
        refine lv_istore_n (i := 2) (lv' := [(2, .int (nI (zz_kd (op i)))), (0, .ref (zz_ad (mg_G q) 0)), (1, .int (nI i))]) hx_ hb_ d_Model_value_38 rfl hl (by decide) rfl (fun ls hl => ?_)
        refine lv_iload_n hx_ hb_ d_Model_value_39 rfl (lv_at hl 2 rfl) ?_
        refine lv_iconst (v := nI 1) hx_ hb_ d_Model_value_40 (by decide) ?_
        refine lv_isub hx_ hb_ d_Model_value_41 ?_
        refine zz_topi (y := nI i - nI 1) rfl ?_
        refine lv_iload_n hx_ hb_ d_Model_value_42 rfl (lv_at hl 0 rfl) ?_
        refine lv_iconst (v := nI 1) hx_ hb_ d_Model_value_43 (by decide) ?_
        refine zz_jle (tgt := 58) hC d_Model_value_44 (by decide) (by omega) (by omega) (fun h44 => ?_) (fun h44 => ?_)
        · refine lv_iconst (v := nI 0) hx_ hb_ d_Model_value_58 (by decide) ?_
          refine lv_isub hx_ hb_ d_Model_value_59 ?_
          refine lv_istore_n (i := 3) (lv' := [(3, .int ((nI i - nI 1) - (nI 0))), (2, .int (nI (zz_kd (op i)))), (0, .ref (zz_ad (mg_G q) 0)), (1, .int (nI i))]) hx_ hb_ d_Model_value_60 rfl hl (by decide) rfl (fun ls hl => ?_)
          refine L61 i ((nI i - nI 1) - (nI 0)) vl Si ?_ _ _ _ h26 ht0 hi1 ho1 hres (fun h => by rw [tr_fa, if_neg (by omega), pk_sub (by omega), pk_sub (by omega)]; rfl) hZ (lv_sub hl [2, 3, 1, 0] rfl)
          · intro Sj H locs ls hSj hZ hl
            refine lv_iinc (k := 1) (v := nI (i + 1)) (lv' := [(1, .int (nI (i + 1))), (0, .ref (zz_ad (mg_G q) 0))]) hx_ hb_ d_Model_value_114 hl rfl (nI_add _ 1) (by decide) rfl (fun ls hl => ?_)
            refine lv_goto (tgt := 21) hx_ hb_ d_Model_value_117 (by decide) ?_
            exact ih_ _ (by omega) (i + 1) (upd vl i (ex_cal vr (op i) (nu i) (if 0 < zz_kd (op i) then vl (tr_fa op sz i) else 0) (if zz_kd (op i) = 2 then vl (i - 1) else 0))) Sj  _ _ _ ht0 (by omega) (by omega) (zz_off_tr ho1 (fun d hd => ⟨by rw [hSj]; exact zz_u1 Si 32 _ _ d hd, by rw [hSj]; rfl⟩)) (fun j h1 hj => by
              rw [hSj, zz_u1s]
              by_cases e : j = i
              · rw [e, pk_us, pk_us]
              · rw [pk_un e, pk_un e]
                exact hres j h1 (by omega)) (mv_step (fun j h1 h2 => (tr_in htr (show 0 < m by omega) (show (m - sz (m - 1)) + sz (m - 1) = m by omega) h1 (by omega)).2) hex rfl) hZ (lv_sub hl [1, 0] rfl) rfl
        · refine lv_aload_n hx_ hb_ d_Model_value_47 rfl (lv_at hl 1 rfl) ?_
          refine zz_get hC hK hZ 0 9 (Nat.le_of_ble_eq_true rfl) (mc_0 q _ _) rfl hin_Model (by decide) wd_516 rfl rfl d_Model_value_48 ?_
          refine lv_iload_n hx_ hb_ d_Model_value_51 rfl (lv_at hl 2 rfl) ?_
          refine lv_iconst (v := nI 1) hx_ hb_ d_Model_value_52 (by decide) ?_
          refine lv_isub hx_ hb_ d_Model_value_53 ?_
          refine zz_topi (y := nI (i - 1)) (pk_sub (by omega)) ?_
          refine zz_iald hC hK hZ 8 0 (i - 1) (Nat.le_of_ble_eq_true rfl) (mc_8 q _ _) rfl rfl (by omega) (by decide) rfl d_Model_value_54 ?_
          refine zz_topi (y := nI (sz (i - 1))) (hTi.2.2.2.2.1 (i - 1) (by omega)).2.2.1 ?_
          refine lv_goto (tgt := 59) hx_ hb_ d_Model_value_55 (by decide) ?_
          refine lv_isub hx_ hb_ d_Model_value_59 ?_
          refine lv_istore_n (i := 3) (lv' := [(3, .int ((nI i - nI 1) - (nI (sz (i - 1))))), (2, .int (nI (zz_kd (op i)))), (0, .ref (zz_ad (mg_G q) 0)), (1, .int (nI i))]) hx_ hb_ d_Model_value_60 rfl hl (by decide) rfl (fun ls hl => ?_)
          refine L61 i ((nI i - nI 1) - (nI (sz (i - 1)))) vl Si ?_ _ _ _ h26 ht0 hi1 ho1 hres (fun h => by rw [tr_fa, if_pos (by omega), pk_sub (by omega), pk_sub (by omega)]) hZ (lv_sub hl [2, 3, 1, 0] rfl)
          · intro Sj H locs ls hSj hZ hl
            refine lv_iinc (k := 1) (v := nI (i + 1)) (lv' := [(1, .int (nI (i + 1))), (0, .ref (zz_ad (mg_G q) 0))]) hx_ hb_ d_Model_value_114 hl rfl (nI_add _ 1) (by decide) rfl (fun ls hl => ?_)
            refine lv_goto (tgt := 21) hx_ hb_ d_Model_value_117 (by decide) ?_
            exact ih_ _ (by omega) (i + 1) (upd vl i (ex_cal vr (op i) (nu i) (if 0 < zz_kd (op i) then vl (tr_fa op sz i) else 0) (if zz_kd (op i) = 2 then vl (i - 1) else 0))) Sj  _ _ _ ht0 (by omega) (by omega) (zz_off_tr ho1 (fun d hd => ⟨by rw [hSj]; exact zz_u1 Si 32 _ _ d hd, by rw [hSj]; rfl⟩)) (fun j h1 hj => by
              rw [hSj, zz_u1s]
              by_cases e : j = i
              · rw [e, pk_us, pk_us]
              · rw [pk_un e, pk_un e]
                exact hres j h1 (by omega)) (mv_step (fun j h1 h2 => (tr_in htr (show 0 < m by omega) (show (m - sz (m - 1)) + sz (m - 1) = m by omega) h1 (by omega)).2) hex rfl) hZ (lv_sub hl [1, 0] rfl) rfl
  have L21 : ∀ (i : Nat) (vl : Nat → Int32) (Si : zz_S) (H : Heap) (locs : List Loc) (ls : Array Slot) (ht0 : t ≠ 0) (hi1 : (m - sz (m - 1)) ≤ i) (hi2 : i ≤ m) (ho1 : zz_off (fun c => c = 32) S Si) (hres : ∀ j, (m - sz (m - 1)) ≤ j → j < i → Si.1 32 j = vl j) (hex : xe_ok vr op nu sz vl (m - sz (m - 1)) i) (hZ : zz_Z (mg_G q) Si s_.heap H locs) (hl : lv_has ls 4 [(0, .ref (zz_ad (mg_G q) 0)), (1, .int (nI i))]), W p_ l e_ rm_Model_value s_ m_ ([.ref (zz_ad (mg_G q) 0)] : List Value).toArray bl_ mt_ c_ H locs 0 0 (MQ bl_ (va_Qi (fun ans S1 => (t = 0 ∧ ans = nI 0 ∧ S = S1) ∨ (t ≠ 0 ∧ zz_off (fun c => c = 32) S S1 ∧ ∃ vl, xe_ok vr op nu sz vl (m - sz (m - 1)) m ∧ ans = vl (m - 1))) (zz_P (mg_G q)) (zz_A (mg_G q))) ([.ref (zz_ad (mg_G q) 0)] : List Value).toArray s_ 0 0 (zz_A (mg_G q))) (F0 m_ 21 ls []) := fun i vl Si H locs ls ht0 hi1 hi2 ho1 hres hex hZ hl => L21_ _ i vl Si H locs ls ht0 hi1 hi2 ho1 hres hex hZ hl rfl
  refine lv_aload_n hx_ hb_ d_Model_value_0 rfl (lv_at hl 0 rfl) ?_
  refine zz_get hC hK hZ 0 11 (Nat.le_of_ble_eq_true rfl) (mc_0 q _ _) rfl hin_Model (by decide) wd_518 rfl rfl d_Model_value_1 ?_
  refine zz_topi (y := nI t) hT.2.1 ?_
  refine zz_ine (tgt := 9) hC d_Model_value_4 (by decide) (by omega) (fun h4 => ?_) (fun h4 => ?_)
  · have h2t := h2ts.1 (by omega)
    refine lv_aload_n hx_ hb_ d_Model_value_9 rfl (lv_at hl 0 rfl) ?_
    refine zz_get hC hK hZ 0 12 (Nat.le_of_ble_eq_true rfl) (mc_0 q _ _) rfl hin_Model (by decide) wd_519 rfl rfl d_Model_value_10 ?_
    refine lv_aload_n hx_ hb_ d_Model_value_13 rfl (lv_at hl 0 rfl) ?_
    refine zz_get hC hK hZ 0 11 (Nat.le_of_ble_eq_true rfl) (mc_0 q _ _) rfl hin_Model (by decide) wd_518 rfl rfl d_Model_value_14 ?_
    refine zz_topi (y := nI t) hT.2.1 ?_
    refine lv_iconst (v := nI 1) hx_ hb_ d_Model_value_17 (by decide) ?_
    refine lv_isub hx_ hb_ d_Model_value_18 ?_
    refine zz_topi (y := nI (t - 1)) (pk_sub (by omega)) ?_
    refine zz_iald hC hK hZ 10 0 (t - 1) (Nat.le_of_ble_eq_true rfl) (mc_10 q _ _) rfl rfl (by omega) (by decide) rfl d_Model_value_19 ?_
    refine zz_topi (y := nI ((m - sz (m - 1)))) (by rw [hps (t - 1) (by omega), show ps (t - 1) = (m - sz (m - 1)) by omega]) ?_
    refine lv_istore_n (i := 1) (lv' := [(1, .int (nI ((m - sz (m - 1))))), (0, .ref (zz_ad (mg_G q) 0))]) hx_ hb_ d_Model_value_20 rfl hl (by decide) rfl (fun ls hl => ?_)
    exact L21 ((m - sz (m - 1))) (fun _ => 0) S  _ _ _ (by omega) (Nat.le_refl _) (by omega) zz_off_rf (fun j h1 h2 => absurd h2 (by omega)) (fun j h1 h2 => absurd h2 (by omega)) hZ (lv_sub hl [1, 0] rfl)
  · refine lv_iconst (v := nI 0) hx_ hb_ d_Model_value_7 (by decide) ?_
    exact zz_iret hC hK hZ rfl d_Model_value_8 (Or.inl ⟨by omega, rfl, rfl⟩)
